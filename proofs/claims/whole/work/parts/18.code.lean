/-! X12_dayGoes -/
theorem d_X12_dayGoes_0 : kf_dq cX12_dayGoes 0 1 1 (.iconst 0) := ⟨by decide +kernel, rfl⟩
theorem d_X12_dayGoes_1 : kf_dq cX12_dayGoes 1 2 1 (.istore_n 1) := ⟨by decide +kernel, rfl⟩
theorem d_X12_dayGoes_2 : kf_dq cX12_dayGoes 2 3 1 (.iload_n 1) := ⟨by decide +kernel, rfl⟩
theorem d_X12_dayGoes_3 : kf_dq cX12_dayGoes 3 4 1 (.aload_n 0) := ⟨by decide +kernel, rfl⟩
theorem d_X12_dayGoes_4 : kf_dq cX12_dayGoes 4 7 3 (.getfield 58) := ⟨by decide +kernel, rfl⟩
theorem d_X12_dayGoes_7 : kf_dq cX12_dayGoes 7 8 1 (.aload_n 0) := ⟨by decide +kernel, rfl⟩
theorem d_X12_dayGoes_8 : kf_dq cX12_dayGoes 8 11 3 (.getfield 233) := ⟨by decide +kernel, rfl⟩
theorem d_X12_dayGoes_11 : kf_dq cX12_dayGoes 11 12 1 (.iaload) := ⟨by decide +kernel, rfl⟩
theorem d_X12_dayGoes_12 : kf_dj cX12_dayGoes 12 15 81 (.if_icmp .ge) := ⟨69, by decide +kernel, rfl, by decide⟩
theorem d_X12_dayGoes_15 : kf_dq cX12_dayGoes 15 16 1 (.aload_n 0) := ⟨by decide +kernel, rfl⟩
theorem d_X12_dayGoes_16 : kf_dq cX12_dayGoes 16 19 3 (.getfield 122) := ⟨by decide +kernel, rfl⟩
theorem d_X12_dayGoes_19 : kf_dq cX12_dayGoes 19 21 2 (.bipush 54) := ⟨by decide +kernel, rfl⟩
theorem d_X12_dayGoes_21 : kf_dq cX12_dayGoes 21 22 1 (.iload_n 1) := ⟨by decide +kernel, rfl⟩
theorem d_X12_dayGoes_22 : kf_dq cX12_dayGoes 22 23 1 (.iadd) := ⟨by decide +kernel, rfl⟩
theorem d_X12_dayGoes_23 : kf_dq cX12_dayGoes 23 24 1 (.iaload) := ⟨by decide +kernel, rfl⟩
theorem d_X12_dayGoes_24 : kf_dq cX12_dayGoes 24 25 1 (.iconst 1) := ⟨by decide +kernel, rfl⟩
theorem d_X12_dayGoes_25 : kf_dj cX12_dayGoes 25 28 75 (.if_icmp .ne) := ⟨50, by decide +kernel, rfl, by decide⟩
theorem d_X12_dayGoes_28 : kf_dq cX12_dayGoes 28 29 1 (.aload_n 0) := ⟨by decide +kernel, rfl⟩
theorem d_X12_dayGoes_29 : kf_dq cX12_dayGoes 29 30 1 (.iload_n 1) := ⟨by decide +kernel, rfl⟩
theorem d_X12_dayGoes_30 : kf_dq cX12_dayGoes 30 31 1 (.aload_n 0) := ⟨by decide +kernel, rfl⟩
theorem d_X12_dayGoes_31 : kf_dq cX12_dayGoes 31 34 3 (.getfield 122) := ⟨by decide +kernel, rfl⟩
theorem d_X12_dayGoes_34 : kf_dq cX12_dayGoes 34 36 2 (.bipush 69) := ⟨by decide +kernel, rfl⟩
theorem d_X12_dayGoes_36 : kf_dq cX12_dayGoes 36 37 1 (.iaload) := ⟨by decide +kernel, rfl⟩
theorem d_X12_dayGoes_37 : kf_dq cX12_dayGoes 37 40 3 (.invokevirtual 370) := ⟨by decide +kernel, rfl⟩
theorem d_X12_dayGoes_40 : kf_dj cX12_dayGoes 40 43 75 (.ifCond .eq) := ⟨35, by decide +kernel, rfl, by decide⟩
theorem d_X12_dayGoes_43 : kf_dq cX12_dayGoes 43 44 1 (.aload_n 0) := ⟨by decide +kernel, rfl⟩
theorem d_X12_dayGoes_44 : kf_dq cX12_dayGoes 44 45 1 (.aload_n 0) := ⟨by decide +kernel, rfl⟩
theorem d_X12_dayGoes_45 : kf_dq cX12_dayGoes 45 48 3 (.getfield 64) := ⟨by decide +kernel, rfl⟩
theorem d_X12_dayGoes_48 : kf_dq cX12_dayGoes 48 50 2 (.bipush 10) := ⟨by decide +kernel, rfl⟩
theorem d_X12_dayGoes_50 : kf_dq cX12_dayGoes 50 51 1 (.aload_n 0) := ⟨by decide +kernel, rfl⟩
theorem d_X12_dayGoes_51 : kf_dq cX12_dayGoes 51 54 3 (.getfield 233) := ⟨by decide +kernel, rfl⟩
theorem d_X12_dayGoes_54 : kf_dq cX12_dayGoes 54 55 1 (.imul) := ⟨by decide +kernel, rfl⟩
theorem d_X12_dayGoes_55 : kf_dq cX12_dayGoes 55 56 1 (.iload_n 1) := ⟨by decide +kernel, rfl⟩
theorem d_X12_dayGoes_56 : kf_dq cX12_dayGoes 56 57 1 (.iadd) := ⟨by decide +kernel, rfl⟩
theorem d_X12_dayGoes_57 : kf_dq cX12_dayGoes 57 58 1 (.iaload) := ⟨by decide +kernel, rfl⟩
theorem d_X12_dayGoes_58 : kf_dq cX12_dayGoes 58 59 1 (.aload_n 0) := ⟨by decide +kernel, rfl⟩
theorem d_X12_dayGoes_59 : kf_dq cX12_dayGoes 59 62 3 (.getfield 61) := ⟨by decide +kernel, rfl⟩
theorem d_X12_dayGoes_62 : kf_dq cX12_dayGoes 62 64 2 (.bipush 10) := ⟨by decide +kernel, rfl⟩
theorem d_X12_dayGoes_64 : kf_dq cX12_dayGoes 64 65 1 (.aload_n 0) := ⟨by decide +kernel, rfl⟩
theorem d_X12_dayGoes_65 : kf_dq cX12_dayGoes 65 68 3 (.getfield 233) := ⟨by decide +kernel, rfl⟩
theorem d_X12_dayGoes_68 : kf_dq cX12_dayGoes 68 69 1 (.imul) := ⟨by decide +kernel, rfl⟩
theorem d_X12_dayGoes_69 : kf_dq cX12_dayGoes 69 70 1 (.iload_n 1) := ⟨by decide +kernel, rfl⟩
theorem d_X12_dayGoes_70 : kf_dq cX12_dayGoes 70 71 1 (.iadd) := ⟨by decide +kernel, rfl⟩
theorem d_X12_dayGoes_71 : kf_dq cX12_dayGoes 71 72 1 (.iaload) := ⟨by decide +kernel, rfl⟩
theorem d_X12_dayGoes_72 : kf_dq cX12_dayGoes 72 75 3 (.invokevirtual 374) := ⟨by decide +kernel, rfl⟩
theorem d_X12_dayGoes_75 : kf_dq cX12_dayGoes 75 78 3 (.iinc 1 1) := ⟨by decide +kernel, rfl⟩
theorem d_X12_dayGoes_78 : kf_dj cX12_dayGoes 78 81 2 .goto := ⟨(-76), by decide +kernel, rfl, by decide⟩
theorem d_X12_dayGoes_81 : kf_dq cX12_dayGoes 81 82 1 (.aload_n 0) := ⟨by decide +kernel, rfl⟩
theorem d_X12_dayGoes_82 : kf_dq cX12_dayGoes 82 85 3 (.getfield 320) := ⟨by decide +kernel, rfl⟩
theorem d_X12_dayGoes_85 : kf_dj cX12_dayGoes 85 88 99 (.ifCond .ne) := ⟨14, by decide +kernel, rfl, by decide⟩
theorem d_X12_dayGoes_88 : kf_dq cX12_dayGoes 88 89 1 (.aload_n 0) := ⟨by decide +kernel, rfl⟩
theorem d_X12_dayGoes_89 : kf_dq cX12_dayGoes 89 92 3 (.invokevirtual 377) := ⟨by decide +kernel, rfl⟩
theorem d_X12_dayGoes_92 : kf_dj cX12_dayGoes 92 95 99 (.ifCond .eq) := ⟨7, by decide +kernel, rfl, by decide⟩
theorem d_X12_dayGoes_95 : kf_dq cX12_dayGoes 95 96 1 (.iconst 1) := ⟨by decide +kernel, rfl⟩
theorem d_X12_dayGoes_96 : kf_dj cX12_dayGoes 96 99 100 .goto := ⟨4, by decide +kernel, rfl, by decide⟩
theorem d_X12_dayGoes_99 : kf_dq cX12_dayGoes 99 100 1 (.iconst 0) := ⟨by decide +kernel, rfl⟩
theorem d_X12_dayGoes_100 : kf_dq cX12_dayGoes 100 101 1 (.istore_n 1) := ⟨by decide +kernel, rfl⟩
theorem d_X12_dayGoes_101 : kf_dq cX12_dayGoes 101 102 1 (.iconst 0) := ⟨by decide +kernel, rfl⟩
theorem d_X12_dayGoes_102 : kf_dq cX12_dayGoes 102 103 1 (.istore_n 2) := ⟨by decide +kernel, rfl⟩
theorem d_X12_dayGoes_103 : kf_dq cX12_dayGoes 103 104 1 (.iload_n 2) := ⟨by decide +kernel, rfl⟩
theorem d_X12_dayGoes_104 : kf_dq cX12_dayGoes 104 105 1 (.aload_n 0) := ⟨by decide +kernel, rfl⟩
theorem d_X12_dayGoes_105 : kf_dq cX12_dayGoes 105 108 3 (.getfield 46) := ⟨by decide +kernel, rfl⟩
theorem d_X12_dayGoes_108 : kf_dq cX12_dayGoes 108 109 1 (.aload_n 0) := ⟨by decide +kernel, rfl⟩
theorem d_X12_dayGoes_109 : kf_dq cX12_dayGoes 109 112 3 (.getfield 233) := ⟨by decide +kernel, rfl⟩
theorem d_X12_dayGoes_112 : kf_dq cX12_dayGoes 112 113 1 (.iaload) := ⟨by decide +kernel, rfl⟩
theorem d_X12_dayGoes_113 : kf_dj cX12_dayGoes 113 116 169 (.if_icmp .ge) := ⟨56, by decide +kernel, rfl, by decide⟩
theorem d_X12_dayGoes_116 : kf_dq cX12_dayGoes 116 117 1 (.iload_n 1) := ⟨by decide +kernel, rfl⟩
theorem d_X12_dayGoes_117 : kf_dj cX12_dayGoes 117 120 169 (.ifCond .eq) := ⟨52, by decide +kernel, rfl, by decide⟩
theorem d_X12_dayGoes_120 : kf_dq cX12_dayGoes 120 121 1 (.iconst 4) := ⟨by decide +kernel, rfl⟩
theorem d_X12_dayGoes_121 : kf_dq cX12_dayGoes 121 122 1 (.iload_n 2) := ⟨by decide +kernel, rfl⟩
theorem d_X12_dayGoes_122 : kf_dq cX12_dayGoes 122 123 1 (.imul) := ⟨by decide +kernel, rfl⟩
theorem d_X12_dayGoes_123 : kf_dq cX12_dayGoes 123 124 1 (.aload_n 0) := ⟨by decide +kernel, rfl⟩
theorem d_X12_dayGoes_124 : kf_dq cX12_dayGoes 124 126 2 (.bipush 16) := ⟨by decide +kernel, rfl⟩
theorem d_X12_dayGoes_126 : kf_dq cX12_dayGoes 126 127 1 (.aload_n 0) := ⟨by decide +kernel, rfl⟩
theorem d_X12_dayGoes_127 : kf_dq cX12_dayGoes 127 130 3 (.getfield 122) := ⟨by decide +kernel, rfl⟩
theorem d_X12_dayGoes_130 : kf_dq cX12_dayGoes 130 132 2 (.bipush 69) := ⟨by decide +kernel, rfl⟩
theorem d_X12_dayGoes_132 : kf_dq cX12_dayGoes 132 133 1 (.iaload) := ⟨by decide +kernel, rfl⟩
theorem d_X12_dayGoes_133 : kf_dq cX12_dayGoes 133 134 1 (.imul) := ⟨by decide +kernel, rfl⟩
theorem d_X12_dayGoes_134 : kf_dq cX12_dayGoes 134 135 1 (.iconst 1) := ⟨by decide +kernel, rfl⟩
theorem d_X12_dayGoes_135 : kf_dq cX12_dayGoes 135 136 1 (.iadd) := ⟨by decide +kernel, rfl⟩
theorem d_X12_dayGoes_136 : kf_dq cX12_dayGoes 136 137 1 (.iload_n 2) := ⟨by decide +kernel, rfl⟩
theorem d_X12_dayGoes_137 : kf_dq cX12_dayGoes 137 138 1 (.iadd) := ⟨by decide +kernel, rfl⟩
theorem d_X12_dayGoes_138 : kf_dq cX12_dayGoes 138 139 1 (.iconst 4) := ⟨by decide +kernel, rfl⟩
theorem d_X12_dayGoes_139 : kf_dq cX12_dayGoes 139 142 3 (.invokevirtual 330) := ⟨by decide +kernel, rfl⟩
theorem d_X12_dayGoes_142 : kf_dq cX12_dayGoes 142 143 1 (.iadd) := ⟨by decide +kernel, rfl⟩
theorem d_X12_dayGoes_143 : kf_dq cX12_dayGoes 143 144 1 (.istore_n 3) := ⟨by decide +kernel, rfl⟩
theorem d_X12_dayGoes_144 : kf_dq cX12_dayGoes 144 145 1 (.aload_n 0) := ⟨by decide +kernel, rfl⟩
theorem d_X12_dayGoes_145 : kf_dq cX12_dayGoes 145 148 3 (.getfield 122) := ⟨by decide +kernel, rfl⟩
theorem d_X12_dayGoes_148 : kf_dq cX12_dayGoes 148 149 1 (.iload_n 3) := ⟨by decide +kernel, rfl⟩
theorem d_X12_dayGoes_149 : kf_dq cX12_dayGoes 149 150 1 (.iaload) := ⟨by decide +kernel, rfl⟩
theorem d_X12_dayGoes_150 : kf_dj cX12_dayGoes 150 153 163 (.ifCond .le) := ⟨13, by decide +kernel, rfl, by decide⟩
theorem d_X12_dayGoes_153 : kf_dq cX12_dayGoes 153 154 1 (.aload_n 0) := ⟨by decide +kernel, rfl⟩
theorem d_X12_dayGoes_154 : kf_dq cX12_dayGoes 154 157 3 (.getfield 122) := ⟨by decide +kernel, rfl⟩
theorem d_X12_dayGoes_157 : kf_dq cX12_dayGoes 157 158 1 (.iload_n 3) := ⟨by decide +kernel, rfl⟩
theorem d_X12_dayGoes_158 : kf_dq cX12_dayGoes 158 159 1 (.dup2) := ⟨by decide +kernel, rfl⟩
theorem d_X12_dayGoes_159 : kf_dq cX12_dayGoes 159 160 1 (.iaload) := ⟨by decide +kernel, rfl⟩
theorem d_X12_dayGoes_160 : kf_dq cX12_dayGoes 160 161 1 (.iconst 1) := ⟨by decide +kernel, rfl⟩
theorem d_X12_dayGoes_161 : kf_dq cX12_dayGoes 161 162 1 (.isub) := ⟨by decide +kernel, rfl⟩
theorem d_X12_dayGoes_162 : kf_dq cX12_dayGoes 162 163 1 (.iastore) := ⟨by decide +kernel, rfl⟩
theorem d_X12_dayGoes_163 : kf_dq cX12_dayGoes 163 166 3 (.iinc 2 1) := ⟨by decide +kernel, rfl⟩
theorem d_X12_dayGoes_166 : kf_dj cX12_dayGoes 166 169 103 .goto := ⟨(-63), by decide +kernel, rfl, by decide⟩
theorem d_X12_dayGoes_169 : kf_dq cX12_dayGoes 169 170 1 (.iconst 0) := ⟨by decide +kernel, rfl⟩
theorem d_X12_dayGoes_170 : kf_dq cX12_dayGoes 170 171 1 (.istore_n 2) := ⟨by decide +kernel, rfl⟩
theorem d_X12_dayGoes_171 : kf_dq cX12_dayGoes 171 172 1 (.iload_n 2) := ⟨by decide +kernel, rfl⟩
theorem d_X12_dayGoes_172 : kf_dq cX12_dayGoes 172 173 1 (.aload_n 0) := ⟨by decide +kernel, rfl⟩
theorem d_X12_dayGoes_173 : kf_dq cX12_dayGoes 173 176 3 (.getfield 46) := ⟨by decide +kernel, rfl⟩
theorem d_X12_dayGoes_176 : kf_dq cX12_dayGoes 176 177 1 (.aload_n 0) := ⟨by decide +kernel, rfl⟩
theorem d_X12_dayGoes_177 : kf_dq cX12_dayGoes 177 180 3 (.getfield 233) := ⟨by decide +kernel, rfl⟩
theorem d_X12_dayGoes_180 : kf_dq cX12_dayGoes 180 181 1 (.iaload) := ⟨by decide +kernel, rfl⟩
theorem d_X12_dayGoes_181 : kf_dj cX12_dayGoes 181 184 263 (.if_icmp .ge) := ⟨82, by decide +kernel, rfl, by decide⟩
theorem d_X12_dayGoes_184 : kf_dq cX12_dayGoes 184 185 1 (.iconst 0) := ⟨by decide +kernel, rfl⟩
theorem d_X12_dayGoes_185 : kf_dq cX12_dayGoes 185 186 1 (.istore_n 3) := ⟨by decide +kernel, rfl⟩
theorem d_X12_dayGoes_186 : kf_dq cX12_dayGoes 186 187 1 (.iload_n 3) := ⟨by decide +kernel, rfl⟩
theorem d_X12_dayGoes_187 : kf_dq cX12_dayGoes 187 188 1 (.iconst 4) := ⟨by decide +kernel, rfl⟩
theorem d_X12_dayGoes_188 : kf_dj cX12_dayGoes 188 191 209 (.if_icmp .ge) := ⟨21, by decide +kernel, rfl, by decide⟩
theorem d_X12_dayGoes_191 : kf_dq cX12_dayGoes 191 192 1 (.aload_n 0) := ⟨by decide +kernel, rfl⟩
theorem d_X12_dayGoes_192 : kf_dq cX12_dayGoes 192 195 3 (.getfield 125) := ⟨by decide +kernel, rfl⟩
theorem d_X12_dayGoes_195 : kf_dq cX12_dayGoes 195 196 1 (.iload_n 3) := ⟨by decide +kernel, rfl⟩
theorem d_X12_dayGoes_196 : kf_dq cX12_dayGoes 196 197 1 (.aload_n 0) := ⟨by decide +kernel, rfl⟩
theorem d_X12_dayGoes_197 : kf_dq cX12_dayGoes 197 198 1 (.iload_n 2) := ⟨by decide +kernel, rfl⟩
theorem d_X12_dayGoes_198 : kf_dq cX12_dayGoes 198 199 1 (.iload_n 3) := ⟨by decide +kernel, rfl⟩
theorem d_X12_dayGoes_199 : kf_dq cX12_dayGoes 199 202 3 (.invokevirtual 381) := ⟨by decide +kernel, rfl⟩
theorem d_X12_dayGoes_202 : kf_dq cX12_dayGoes 202 203 1 (.iastore) := ⟨by decide +kernel, rfl⟩
theorem d_X12_dayGoes_203 : kf_dq cX12_dayGoes 203 206 3 (.iinc 3 1) := ⟨by decide +kernel, rfl⟩
theorem d_X12_dayGoes_206 : kf_dj cX12_dayGoes 206 209 186 .goto := ⟨(-20), by decide +kernel, rfl, by decide⟩
theorem d_X12_dayGoes_209 : kf_dq cX12_dayGoes 209 210 1 (.iconst 0) := ⟨by decide +kernel, rfl⟩
theorem d_X12_dayGoes_210 : kf_dq cX12_dayGoes 210 211 1 (.istore_n 3) := ⟨by decide +kernel, rfl⟩
theorem d_X12_dayGoes_211 : kf_dq cX12_dayGoes 211 212 1 (.iload_n 3) := ⟨by decide +kernel, rfl⟩
theorem d_X12_dayGoes_212 : kf_dq cX12_dayGoes 212 213 1 (.iconst 4) := ⟨by decide +kernel, rfl⟩
theorem d_X12_dayGoes_213 : kf_dj cX12_dayGoes 213 216 257 (.if_icmp .ge) := ⟨44, by decide +kernel, rfl, by decide⟩
theorem d_X12_dayGoes_216 : kf_dq cX12_dayGoes 216 217 1 (.aload_n 0) := ⟨by decide +kernel, rfl⟩
theorem d_X12_dayGoes_217 : kf_dq cX12_dayGoes 217 220 3 (.getfield 122) := ⟨by decide +kernel, rfl⟩
theorem d_X12_dayGoes_220 : kf_dq cX12_dayGoes 220 221 1 (.iconst 4) := ⟨by decide +kernel, rfl⟩
theorem d_X12_dayGoes_221 : kf_dq cX12_dayGoes 221 222 1 (.iload_n 2) := ⟨by decide +kernel, rfl⟩
theorem d_X12_dayGoes_222 : kf_dq cX12_dayGoes 222 223 1 (.imul) := ⟨by decide +kernel, rfl⟩
theorem d_X12_dayGoes_223 : kf_dq cX12_dayGoes 223 224 1 (.iload_n 3) := ⟨by decide +kernel, rfl⟩
theorem d_X12_dayGoes_224 : kf_dq cX12_dayGoes 224 225 1 (.iadd) := ⟨by decide +kernel, rfl⟩
theorem d_X12_dayGoes_225 : kf_dq cX12_dayGoes 225 226 1 (.aload_n 0) := ⟨by decide +kernel, rfl⟩
theorem d_X12_dayGoes_226 : kf_dq cX12_dayGoes 226 229 3 (.getfield 122) := ⟨by decide +kernel, rfl⟩
theorem d_X12_dayGoes_229 : kf_dq cX12_dayGoes 229 230 1 (.iconst 4) := ⟨by decide +kernel, rfl⟩
theorem d_X12_dayGoes_230 : kf_dq cX12_dayGoes 230 231 1 (.iload_n 2) := ⟨by decide +kernel, rfl⟩
theorem d_X12_dayGoes_231 : kf_dq cX12_dayGoes 231 232 1 (.imul) := ⟨by decide +kernel, rfl⟩
theorem d_X12_dayGoes_232 : kf_dq cX12_dayGoes 232 233 1 (.iload_n 3) := ⟨by decide +kernel, rfl⟩
theorem d_X12_dayGoes_233 : kf_dq cX12_dayGoes 233 234 1 (.iadd) := ⟨by decide +kernel, rfl⟩
theorem d_X12_dayGoes_234 : kf_dq cX12_dayGoes 234 235 1 (.iaload) := ⟨by decide +kernel, rfl⟩
theorem d_X12_dayGoes_235 : kf_dq cX12_dayGoes 235 236 1 (.aload_n 0) := ⟨by decide +kernel, rfl⟩
theorem d_X12_dayGoes_236 : kf_dq cX12_dayGoes 236 237 1 (.iload_n 2) := ⟨by decide +kernel, rfl⟩
theorem d_X12_dayGoes_237 : kf_dq cX12_dayGoes 237 238 1 (.iload_n 3) := ⟨by decide +kernel, rfl⟩
theorem d_X12_dayGoes_238 : kf_dq cX12_dayGoes 238 241 3 (.invokevirtual 339) := ⟨by decide +kernel, rfl⟩
theorem d_X12_dayGoes_241 : kf_dq cX12_dayGoes 241 242 1 (.aload_n 0) := ⟨by decide +kernel, rfl⟩
theorem d_X12_dayGoes_242 : kf_dq cX12_dayGoes 242 245 3 (.getfield 125) := ⟨by decide +kernel, rfl⟩
theorem d_X12_dayGoes_245 : kf_dq cX12_dayGoes 245 246 1 (.iload_n 3) := ⟨by decide +kernel, rfl⟩
theorem d_X12_dayGoes_246 : kf_dq cX12_dayGoes 246 247 1 (.iaload) := ⟨by decide +kernel, rfl⟩
theorem d_X12_dayGoes_247 : kf_dq cX12_dayGoes 247 250 3 (.invokestatic 366) := ⟨by decide +kernel, rfl⟩
theorem d_X12_dayGoes_250 : kf_dq cX12_dayGoes 250 251 1 (.iastore) := ⟨by decide +kernel, rfl⟩
theorem d_X12_dayGoes_251 : kf_dq cX12_dayGoes 251 254 3 (.iinc 3 1) := ⟨by decide +kernel, rfl⟩
theorem d_X12_dayGoes_254 : kf_dj cX12_dayGoes 254 257 211 .goto := ⟨(-43), by decide +kernel, rfl, by decide⟩
theorem d_X12_dayGoes_257 : kf_dq cX12_dayGoes 257 260 3 (.iinc 2 1) := ⟨by decide +kernel, rfl⟩
theorem d_X12_dayGoes_260 : kf_dj cX12_dayGoes 260 263 171 .goto := ⟨(-89), by decide +kernel, rfl, by decide⟩
theorem d_X12_dayGoes_263 : kf_dq cX12_dayGoes 263 264 1 (.iconst 0) := ⟨by decide +kernel, rfl⟩
theorem d_X12_dayGoes_264 : kf_dq cX12_dayGoes 264 265 1 (.istore_n 2) := ⟨by decide +kernel, rfl⟩
theorem d_X12_dayGoes_265 : kf_dq cX12_dayGoes 265 266 1 (.iload_n 2) := ⟨by decide +kernel, rfl⟩
theorem d_X12_dayGoes_266 : kf_dq cX12_dayGoes 266 267 1 (.aload_n 0) := ⟨by decide +kernel, rfl⟩
theorem d_X12_dayGoes_267 : kf_dq cX12_dayGoes 267 270 3 (.getfield 46) := ⟨by decide +kernel, rfl⟩
theorem d_X12_dayGoes_270 : kf_dq cX12_dayGoes 270 271 1 (.aload_n 0) := ⟨by decide +kernel, rfl⟩
theorem d_X12_dayGoes_271 : kf_dq cX12_dayGoes 271 274 3 (.getfield 233) := ⟨by decide +kernel, rfl⟩
theorem d_X12_dayGoes_274 : kf_dq cX12_dayGoes 274 275 1 (.iaload) := ⟨by decide +kernel, rfl⟩
theorem d_X12_dayGoes_275 : kf_dj cX12_dayGoes 275 278 338 (.if_icmp .ge) := ⟨63, by decide +kernel, rfl, by decide⟩
theorem d_X12_dayGoes_278 : kf_dq cX12_dayGoes 278 279 1 (.aload_n 0) := ⟨by decide +kernel, rfl⟩
theorem d_X12_dayGoes_279 : kf_dq cX12_dayGoes 279 282 3 (.getfield 122) := ⟨by decide +kernel, rfl⟩
theorem d_X12_dayGoes_282 : kf_dq cX12_dayGoes 282 284 2 (.bipush 30) := ⟨by decide +kernel, rfl⟩
theorem d_X12_dayGoes_284 : kf_dq cX12_dayGoes 284 285 1 (.iload_n 2) := ⟨by decide +kernel, rfl⟩
theorem d_X12_dayGoes_285 : kf_dq cX12_dayGoes 285 286 1 (.iadd) := ⟨by decide +kernel, rfl⟩
theorem d_X12_dayGoes_286 : kf_dq cX12_dayGoes 286 287 1 (.aload_n 0) := ⟨by decide +kernel, rfl⟩
theorem d_X12_dayGoes_287 : kf_dq cX12_dayGoes 287 290 3 (.getfield 122) := ⟨by decide +kernel, rfl⟩
theorem d_X12_dayGoes_290 : kf_dq cX12_dayGoes 290 292 2 (.bipush 48) := ⟨by decide +kernel, rfl⟩
theorem d_X12_dayGoes_292 : kf_dq cX12_dayGoes 292 293 1 (.iload_n 2) := ⟨by decide +kernel, rfl⟩
theorem d_X12_dayGoes_293 : kf_dq cX12_dayGoes 293 294 1 (.iadd) := ⟨by decide +kernel, rfl⟩
theorem d_X12_dayGoes_294 : kf_dq cX12_dayGoes 294 295 1 (.iaload) := ⟨by decide +kernel, rfl⟩
theorem d_X12_dayGoes_295 : kf_dq cX12_dayGoes 295 296 1 (.iconst 1) := ⟨by decide +kernel, rfl⟩
theorem d_X12_dayGoes_296 : kf_dj cX12_dayGoes 296 299 303 (.if_icmp .ne) := ⟨7, by decide +kernel, rfl, by decide⟩
theorem d_X12_dayGoes_299 : kf_dq cX12_dayGoes 299 300 1 (.iconst 0) := ⟨by decide +kernel, rfl⟩
theorem d_X12_dayGoes_300 : kf_dj cX12_dayGoes 300 303 321 .goto := ⟨21, by decide +kernel, rfl, by decide⟩
theorem d_X12_dayGoes_303 : kf_dq cX12_dayGoes 303 304 1 (.aload_n 0) := ⟨by decide +kernel, rfl⟩
theorem d_X12_dayGoes_304 : kf_dq cX12_dayGoes 304 307 3 (.getfield 122) := ⟨by decide +kernel, rfl⟩
theorem d_X12_dayGoes_307 : kf_dq cX12_dayGoes 307 309 2 (.bipush 30) := ⟨by decide +kernel, rfl⟩
theorem d_X12_dayGoes_309 : kf_dq cX12_dayGoes 309 310 1 (.iload_n 2) := ⟨by decide +kernel, rfl⟩
theorem d_X12_dayGoes_310 : kf_dq cX12_dayGoes 310 311 1 (.iadd) := ⟨by decide +kernel, rfl⟩
theorem d_X12_dayGoes_311 : kf_dq cX12_dayGoes 311 312 1 (.iaload) := ⟨by decide +kernel, rfl⟩
theorem d_X12_dayGoes_312 : kf_dq cX12_dayGoes 312 313 1 (.iconst 1) := ⟨by decide +kernel, rfl⟩
theorem d_X12_dayGoes_313 : kf_dq cX12_dayGoes 313 314 1 (.iadd) := ⟨by decide +kernel, rfl⟩
theorem d_X12_dayGoes_314 : kf_dq cX12_dayGoes 314 315 1 (.iconst 0) := ⟨by decide +kernel, rfl⟩
theorem d_X12_dayGoes_315 : kf_dq cX12_dayGoes 315 318 3 (.sipush 999) := ⟨by decide +kernel, rfl⟩
theorem d_X12_dayGoes_318 : kf_dq cX12_dayGoes 318 321 3 (.invokestatic 354) := ⟨by decide +kernel, rfl⟩
theorem d_X12_dayGoes_321 : kf_dq cX12_dayGoes 321 322 1 (.iastore) := ⟨by decide +kernel, rfl⟩
theorem d_X12_dayGoes_322 : kf_dq cX12_dayGoes 322 323 1 (.aload_n 0) := ⟨by decide +kernel, rfl⟩
theorem d_X12_dayGoes_323 : kf_dq cX12_dayGoes 323 326 3 (.getfield 122) := ⟨by decide +kernel, rfl⟩
theorem d_X12_dayGoes_326 : kf_dq cX12_dayGoes 326 328 2 (.bipush 48) := ⟨by decide +kernel, rfl⟩
theorem d_X12_dayGoes_328 : kf_dq cX12_dayGoes 328 329 1 (.iload_n 2) := ⟨by decide +kernel, rfl⟩
theorem d_X12_dayGoes_329 : kf_dq cX12_dayGoes 329 330 1 (.iadd) := ⟨by decide +kernel, rfl⟩
theorem d_X12_dayGoes_330 : kf_dq cX12_dayGoes 330 331 1 (.iconst 0) := ⟨by decide +kernel, rfl⟩
theorem d_X12_dayGoes_331 : kf_dq cX12_dayGoes 331 332 1 (.iastore) := ⟨by decide +kernel, rfl⟩
theorem d_X12_dayGoes_332 : kf_dq cX12_dayGoes 332 335 3 (.iinc 2 1) := ⟨by decide +kernel, rfl⟩
theorem d_X12_dayGoes_335 : kf_dj cX12_dayGoes 335 338 265 .goto := ⟨(-70), by decide +kernel, rfl, by decide⟩
theorem d_X12_dayGoes_338 : kf_dq cX12_dayGoes 338 339 1 (.aload_n 0) := ⟨by decide +kernel, rfl⟩
theorem d_X12_dayGoes_339 : kf_dq cX12_dayGoes 339 342 3 (.getfield 122) := ⟨by decide +kernel, rfl⟩
theorem d_X12_dayGoes_342 : kf_dq cX12_dayGoes 342 344 2 (.bipush 69) := ⟨by decide +kernel, rfl⟩
theorem d_X12_dayGoes_344 : kf_dq cX12_dayGoes 344 345 1 (.dup2) := ⟨by decide +kernel, rfl⟩
theorem d_X12_dayGoes_345 : kf_dq cX12_dayGoes 345 346 1 (.iaload) := ⟨by decide +kernel, rfl⟩
theorem d_X12_dayGoes_346 : kf_dq cX12_dayGoes 346 347 1 (.iconst 1) := ⟨by decide +kernel, rfl⟩
theorem d_X12_dayGoes_347 : kf_dq cX12_dayGoes 347 348 1 (.iadd) := ⟨by decide +kernel, rfl⟩
theorem d_X12_dayGoes_348 : kf_dq cX12_dayGoes 348 349 1 (.iastore) := ⟨by decide +kernel, rfl⟩
theorem d_X12_dayGoes_349 : kf_dq cX12_dayGoes 349 350 1 (.return_) := ⟨by decide +kernel, rfl⟩
def f_X12_dayGoes_321 (rec265 : Nat → Int32 → kf_St → Option kf_St) (v0 : Nat) (v2 : Int32) (s0 : Nat) (s1 : Int32) (s2 : Int32) (σ : kf_St) : Option kf_St :=
  if kf_ix s1 (kf_ln s0) = true then
  kf_lt (kf_wi σ s0 (Int32.toNatClampNeg s1) s2) fun σ_2 =>
  if kf_ix (48 + v2) (kf_ln (kf_rf v0 52)) = true then
  kf_lt (kf_wi σ_2 (kf_rf v0 52) (Int32.toNatClampNeg (48 + v2)) 0) fun σ_4 =>
  kf_lt (v2 + 1) fun v2_5 =>
  rec265 v0 v2_5 σ_4
  else none
  else none
set_option maxRecDepth 100000 in
set_option maxHeartbeats 4000000 in
theorem b_X12_dayGoes_321 {X : kf_X} {G : kf_G} {rec265 : Nat → Int32 → kf_St → Option kf_St} {q : kf_St} (E : kf_ok X G cX12_dayGoes RX12 4 none (5)) (hty : kf_wt G) (hrec265 : ∀ (v0 : Nat) (v2 : Int32) (k_v0 : kf_kd G v0 = 13) (σ : kf_St), rec265 v0 v2 σ = some q → kf_WA X G 4 (kf_Q X G none q) 265 [(0, .ref (kf_ad G v0)), (2, .int v2)] [] σ) (v0 : Nat) (v2 : Int32) (s0 : Nat) (s1 : Int32) (s2 : Int32) (k_v0 : kf_kd G v0 = 13) (k_s0 : kf_kd G s0 = 50) (σ : kf_St) (h : f_X12_dayGoes_321 rec265 v0 v2 s0 s1 s2 σ = some q) : kf_WA X G 4 (kf_Q X G none q) 321 [(0, .ref (kf_ad G v0)), (2, .int v2)] [.int s2, .int s1, .ref (kf_ad G s0)] σ := by
  unfold f_X12_dayGoes_321 at h
  obtain ⟨g_1, h⟩ := kf_gd h
  obtain ⟨σ_2, eσ_2, h⟩ := kf_lte h
  refine wa_iast k_s0 g_1 E d_X12_dayGoes_321 eσ_2 ?_
  refine wa_aload_n 0 rfl E d_X12_dayGoes_322 ?_
  refine wa_getR fl_X12_122 k_v0 rfl E d_X12_dayGoes_323 ?_
  refine wa_bipush 48 bp_48 E d_X12_dayGoes_326 ?_
  refine wa_iload_n 1 rfl E d_X12_dayGoes_328 ?_
  refine wa_iadd E d_X12_dayGoes_329 ?_
  refine wa_iconst 0 ic_0 E d_X12_dayGoes_330 ?_
  obtain ⟨g_3, h⟩ := kf_gd h
  obtain ⟨σ_4, eσ_4, h⟩ := kf_lte h
  refine wa_iast (kf_wtf hty 52 49 k_v0 (by decide) rfl) g_3 E d_X12_dayGoes_331 eσ_4 ?_
  obtain ⟨v2_5, ev2_5, h⟩ := kf_lte h
  refine wa_iinc (lv' := [(2, .int v2_5), (0, .ref (kf_ad G v0))]) v2_5 1 rfl (kf_inc ic_1 ev2_5) (by decide) rfl E d_X12_dayGoes_332 ?_
  refine wa_goto E d_X12_dayGoes_335 ?_
  refine wa_sub [1, 0] rfl ?_
  exact hrec265 v0 v2_5 k_v0 σ_4 h
def f_X12_dayGoes_265_s (rec265 : Nat → Int32 → kf_St → Option kf_St) (v0 : Nat) (v2 : Int32) (σ : kf_St) : Option kf_St :=
  if kf_ix (σ.1 v0 18) (kf_ln (kf_rf v0 23)) = true then
  if (σ.1 (kf_rf v0 23) (Int32.toNatClampNeg (σ.1 v0 18))) ≤ v2 then
    if kf_ix 69 (kf_ln (kf_rf v0 52)) = true then
    if kf_ix 69 (kf_ln (kf_rf v0 52)) = true then
    kf_lt (kf_wi σ (kf_rf v0 52) (Int32.toNatClampNeg 69) ((σ.1 (kf_rf v0 52) (Int32.toNatClampNeg 69)) + 1)) fun σ_5 =>
    some σ_5
    else none
    else none
  else
    if kf_ix (48 + v2) (kf_ln (kf_rf v0 52)) = true then
    if (σ.1 (kf_rf v0 52) (Int32.toNatClampNeg (48 + v2))) = 1 then
      f_X12_dayGoes_321 rec265 v0 v2 (kf_rf v0 52) (30 + v2) 0 σ
    else
      if kf_ix (30 + v2) (kf_ln (kf_rf v0 52)) = true then
      (f_X12_within ((σ.1 (kf_rf v0 52) (Int32.toNatClampNeg (30 + v2))) + 1) 0 999 σ).bind fun q_9 =>
      f_X12_dayGoes_321 rec265 v0 v2 (kf_rf v0 52) (30 + v2) q_9.1 q_9.2
      else none
    else none
  else none
def f_X12_dayGoes_265 : Nat → Nat → Int32 → kf_St → Option kf_St
  | 0, _, _, _ => none
  | n + 1, v0, v2, σ => f_X12_dayGoes_265_s (f_X12_dayGoes_265 n) v0 v2 σ
set_option maxRecDepth 100000 in
set_option maxHeartbeats 4000000 in
theorem b_X12_dayGoes_265_s {X : kf_X} {G : kf_G} (rec265 : Nat → Int32 → kf_St → Option kf_St) {q : kf_St} (E : kf_ok X G cX12_dayGoes RX12 4 none (5)) (hty : kf_wt G) (hrec265 : ∀ (v0 : Nat) (v2 : Int32) (k_v0 : kf_kd G v0 = 13) (σ : kf_St), rec265 v0 v2 σ = some q → kf_WA X G 4 (kf_Q X G none q) 265 [(0, .ref (kf_ad G v0)), (2, .int v2)] [] σ) (v0 : Nat) (v2 : Int32) (k_v0 : kf_kd G v0 = 13) (σ : kf_St) (h : f_X12_dayGoes_265_s rec265 v0 v2 σ = some q) : kf_WA X G 4 (kf_Q X G none q) 265 [(0, .ref (kf_ad G v0)), (2, .int v2)] [] σ := by
  unfold f_X12_dayGoes_265_s at h
  refine wa_iload_n 1 rfl E d_X12_dayGoes_265 ?_
  refine wa_aload_n 0 rfl E d_X12_dayGoes_266 ?_
  refine wa_getR fl_X12_46 k_v0 rfl E d_X12_dayGoes_267 ?_
  refine wa_aload_n 0 rfl E d_X12_dayGoes_270 ?_
  refine wa_getI fl_X12_233 k_v0 rfl E d_X12_dayGoes_271 ?_
  obtain ⟨g_1, h⟩ := kf_gd h
  refine wa_iald (kf_wtf hty 23 49 k_v0 (by decide) rfl) g_1 E d_X12_dayGoes_274 ?_
  refine wa_icmp_ge E d_X12_dayGoes_275 (fun c_2 => ?_) (fun c_2 => ?_)
  · replace h := kf_ift c_2 h
    refine wa_aload_n 0 rfl E d_X12_dayGoes_338 ?_
    refine wa_getR fl_X12_122 k_v0 rfl E d_X12_dayGoes_339 ?_
    refine wa_bipush 69 bp_69 E d_X12_dayGoes_342 ?_
    refine wa_dup2 rfl rfl E d_X12_dayGoes_344 ?_
    obtain ⟨g_3, h⟩ := kf_gd h
    refine wa_iald (kf_wtf hty 52 49 k_v0 (by decide) rfl) g_3 E d_X12_dayGoes_345 ?_
    refine wa_iconst 1 ic_1 E d_X12_dayGoes_346 ?_
    refine wa_iadd E d_X12_dayGoes_347 ?_
    obtain ⟨g_4, h⟩ := kf_gd h
    obtain ⟨σ_5, eσ_5, h⟩ := kf_lte h
    refine wa_iast (kf_wtf hty 52 49 k_v0 (by decide) rfl) g_4 E d_X12_dayGoes_348 eσ_5 ?_
    cases h
    exact wa_vret E d_X12_dayGoes_349
  · replace h := kf_iff c_2 h
    refine wa_aload_n 0 rfl E d_X12_dayGoes_278 ?_
    refine wa_getR fl_X12_122 k_v0 rfl E d_X12_dayGoes_279 ?_
    refine wa_bipush 30 bp_30 E d_X12_dayGoes_282 ?_
    refine wa_iload_n 1 rfl E d_X12_dayGoes_284 ?_
    refine wa_iadd E d_X12_dayGoes_285 ?_
    refine wa_aload_n 0 rfl E d_X12_dayGoes_286 ?_
    refine wa_getR fl_X12_122 k_v0 rfl E d_X12_dayGoes_287 ?_
    refine wa_bipush 48 bp_48 E d_X12_dayGoes_290 ?_
    refine wa_iload_n 1 rfl E d_X12_dayGoes_292 ?_
    refine wa_iadd E d_X12_dayGoes_293 ?_
    obtain ⟨g_6, h⟩ := kf_gd h
    refine wa_iald (kf_wtf hty 52 49 k_v0 (by decide) rfl) g_6 E d_X12_dayGoes_294 ?_
    refine wa_iconst 1 ic_1 E d_X12_dayGoes_295 ?_
    refine wa_icmp_ne E d_X12_dayGoes_296 (fun c_7 => ?_) (fun c_7 => ?_)
    · replace h := kf_iff c_7 h
      refine wa_aload_n 0 rfl E d_X12_dayGoes_303 ?_
      refine wa_getR fl_X12_122 k_v0 rfl E d_X12_dayGoes_304 ?_
      refine wa_bipush 30 bp_30 E d_X12_dayGoes_307 ?_
      refine wa_iload_n 1 rfl E d_X12_dayGoes_309 ?_
      refine wa_iadd E d_X12_dayGoes_310 ?_
      obtain ⟨g_8, h⟩ := kf_gd h
      refine wa_iald (kf_wtf hty 52 49 k_v0 (by decide) rfl) g_8 E d_X12_dayGoes_311 ?_
      refine wa_iconst 1 ic_1 E d_X12_dayGoes_312 ?_
      refine wa_iadd E d_X12_dayGoes_313 ?_
      refine wa_iconst 0 ic_0 E d_X12_dayGoes_314 ?_
      refine wa_sipush 999 sp_999 E d_X12_dayGoes_315 ?_
      obtain ⟨q_9, hq_9, h⟩ := kf_bd h
      refine wa_callS (st2 := [.int q_9.1, .int (30 + v2), .ref (kf_ad G (kf_rf v0 52))]) (c_X12_within hty ((σ.1 (kf_rf v0 52) (Int32.toNatClampNeg (30 + v2))) + 1) 0 999 σ hq_9) mt_X12_within ml_X12_354 rfl (Nat.le_of_ble_eq_true rfl) rfl (Nat.le_of_ble_eq_true rfl) E d_X12_dayGoes_318 rfl ?_
      exact b_X12_dayGoes_321 E hty hrec265 v0 v2 (kf_rf v0 52) (30 + v2) q_9.1 k_v0 (kf_wtf hty 52 49 k_v0 (by decide) rfl) q_9.2 h
    · replace h := kf_ift c_7 h
      refine wa_iconst 0 ic_0 E d_X12_dayGoes_299 ?_
      refine wa_goto E d_X12_dayGoes_300 ?_
      exact b_X12_dayGoes_321 E hty hrec265 v0 v2 (kf_rf v0 52) (30 + v2) 0 k_v0 (kf_wtf hty 52 49 k_v0 (by decide) rfl) σ h
theorem b_X12_dayGoes_265 {X : kf_X} {G : kf_G} {q : kf_St} (E : kf_ok X G cX12_dayGoes RX12 4 none (5)) (hty : kf_wt G) : ∀ (N : Nat) (v0 : Nat) (v2 : Int32) (k_v0 : kf_kd G v0 = 13) (σ : kf_St) (_ : f_X12_dayGoes_265 N v0 v2 σ = some q), kf_WA X G 4 (kf_Q X G none q) 265 [(0, .ref (kf_ad G v0)), (2, .int v2)] [] σ
  | 0, _, _, _, _, h => by cases h
  | N + 1, v0, v2, k_v0, σ, h => b_X12_dayGoes_265_s _ E hty (b_X12_dayGoes_265 E hty N) v0 v2 k_v0 σ h
def f_X12_dayGoes_211_s (rec171 : Nat → Int32 → kf_St → Option kf_St) (rec211 : Nat → Int32 → Int32 → kf_St → Option kf_St) (v0 : Nat) (v2 : Int32) (v3 : Int32) (σ : kf_St) : Option kf_St :=
  if 4 ≤ v3 then
    kf_lt (v2 + 1) fun v2_2 =>
    rec171 v0 v2_2 σ
  else
    if kf_ix ((4 * v2) + v3) (kf_ln (kf_rf v0 52)) = true then
    (f_X12_firstPart v0 v2 v3 σ).bind fun q_4 =>
    if kf_ix v3 (kf_ln (kf_rf v0 55)) = true then
    (f_X12_towardsBy (σ.1 (kf_rf v0 52) (Int32.toNatClampNeg ((4 * v2) + v3))) q_4.1 (q_4.2.1 (kf_rf v0 55) (Int32.toNatClampNeg v3)) q_4.2).bind fun q_6 =>
    if kf_ix ((4 * v2) + v3) (kf_ln (kf_rf v0 52)) = true then
    kf_lt (kf_wi q_6.2 (kf_rf v0 52) (Int32.toNatClampNeg ((4 * v2) + v3)) q_6.1) fun σ_8 =>
    kf_lt (v3 + 1) fun v3_9 =>
    rec211 v0 v2 v3_9 σ_8
    else none
    else none
    else none
def f_X12_dayGoes_211 (rec171 : Nat → Int32 → kf_St → Option kf_St) : Nat → Nat → Int32 → Int32 → kf_St → Option kf_St
  | 0, _, _, _, _ => none
  | n + 1, v0, v2, v3, σ => f_X12_dayGoes_211_s rec171 (f_X12_dayGoes_211 rec171 n) v0 v2 v3 σ
set_option maxRecDepth 100000 in
set_option maxHeartbeats 4000000 in
theorem b_X12_dayGoes_211_s {X : kf_X} {G : kf_G} {rec171 : Nat → Int32 → kf_St → Option kf_St} (rec211 : Nat → Int32 → Int32 → kf_St → Option kf_St) {q : kf_St} (E : kf_ok X G cX12_dayGoes RX12 4 none (5)) (hty : kf_wt G) (hrec171 : ∀ (v0 : Nat) (v2 : Int32) (k_v0 : kf_kd G v0 = 13) (σ : kf_St), rec171 v0 v2 σ = some q → kf_WA X G 4 (kf_Q X G none q) 171 [(0, .ref (kf_ad G v0)), (2, .int v2)] [] σ) (hrec211 : ∀ (v0 : Nat) (v2 : Int32) (v3 : Int32) (k_v0 : kf_kd G v0 = 13) (σ : kf_St), rec211 v0 v2 v3 σ = some q → kf_WA X G 4 (kf_Q X G none q) 211 [(0, .ref (kf_ad G v0)), (2, .int v2), (3, .int v3)] [] σ) (v0 : Nat) (v2 : Int32) (v3 : Int32) (k_v0 : kf_kd G v0 = 13) (σ : kf_St) (h : f_X12_dayGoes_211_s rec171 rec211 v0 v2 v3 σ = some q) : kf_WA X G 4 (kf_Q X G none q) 211 [(0, .ref (kf_ad G v0)), (2, .int v2), (3, .int v3)] [] σ := by
  unfold f_X12_dayGoes_211_s at h
  refine wa_iload_n 2 rfl E d_X12_dayGoes_211 ?_
  refine wa_iconst 4 ic_4 E d_X12_dayGoes_212 ?_
  refine wa_icmp_ge E d_X12_dayGoes_213 (fun c_1 => ?_) (fun c_1 => ?_)
  · replace h := kf_ift c_1 h
    obtain ⟨v2_2, ev2_2, h⟩ := kf_lte h
    refine wa_iinc (lv' := [(2, .int v2_2), (0, .ref (kf_ad G v0)), (3, .int v3)]) v2_2 1 rfl (kf_inc ic_1 ev2_2) (by decide) rfl E d_X12_dayGoes_257 ?_
    refine wa_goto E d_X12_dayGoes_260 ?_
    refine wa_sub [1, 0] rfl ?_
    exact hrec171 v0 v2_2 k_v0 σ h
  · replace h := kf_iff c_1 h
    refine wa_aload_n 0 rfl E d_X12_dayGoes_216 ?_
    refine wa_getR fl_X12_122 k_v0 rfl E d_X12_dayGoes_217 ?_
    refine wa_iconst 4 ic_4 E d_X12_dayGoes_220 ?_
    refine wa_iload_n 1 rfl E d_X12_dayGoes_221 ?_
    refine wa_imul E d_X12_dayGoes_222 ?_
    refine wa_iload_n 2 rfl E d_X12_dayGoes_223 ?_
    refine wa_iadd E d_X12_dayGoes_224 ?_
    refine wa_aload_n 0 rfl E d_X12_dayGoes_225 ?_
    refine wa_getR fl_X12_122 k_v0 rfl E d_X12_dayGoes_226 ?_
    refine wa_iconst 4 ic_4 E d_X12_dayGoes_229 ?_
    refine wa_iload_n 1 rfl E d_X12_dayGoes_230 ?_
    refine wa_imul E d_X12_dayGoes_231 ?_
    refine wa_iload_n 2 rfl E d_X12_dayGoes_232 ?_
    refine wa_iadd E d_X12_dayGoes_233 ?_
    obtain ⟨g_3, h⟩ := kf_gd h
    refine wa_iald (kf_wtf hty 52 49 k_v0 (by decide) rfl) g_3 E d_X12_dayGoes_234 ?_
    refine wa_aload_n 0 rfl E d_X12_dayGoes_235 ?_
    refine wa_iload_n 1 rfl E d_X12_dayGoes_236 ?_
    refine wa_iload_n 2 rfl E d_X12_dayGoes_237 ?_
    obtain ⟨q_4, hq_4, h⟩ := kf_bd h
    refine wa_callV (st2 := [.int q_4.1, .int (σ.1 (kf_rf v0 52) (Int32.toNatClampNeg ((4 * v2) + v3))), .int ((4 * v2) + v3), .ref (kf_ad G (kf_rf v0 52))]) (c_X12_firstPart hty v0 v2 v3 k_v0 σ hq_4) mv_X12_firstPart ml_X12_339 k_v0 rfl (Nat.le_of_ble_eq_true rfl) rfl (Nat.le_of_ble_eq_true rfl) E d_X12_dayGoes_238 rfl ?_
    refine wa_aload_n 0 rfl E d_X12_dayGoes_241 ?_
    refine wa_getR fl_X12_125 k_v0 rfl E d_X12_dayGoes_242 ?_
    refine wa_iload_n 2 rfl E d_X12_dayGoes_245 ?_
    obtain ⟨g_5, h⟩ := kf_gd h
    refine wa_iald (kf_wtf hty 55 49 k_v0 (by decide) rfl) g_5 E d_X12_dayGoes_246 ?_
    obtain ⟨q_6, hq_6, h⟩ := kf_bd h
    refine wa_callS (st2 := [.int q_6.1, .int ((4 * v2) + v3), .ref (kf_ad G (kf_rf v0 52))]) (c_X12_towardsBy hty (σ.1 (kf_rf v0 52) (Int32.toNatClampNeg ((4 * v2) + v3))) q_4.1 (q_4.2.1 (kf_rf v0 55) (Int32.toNatClampNeg v3)) q_4.2 hq_6) mt_X12_towardsBy ml_X12_366 rfl (Nat.le_of_ble_eq_true rfl) rfl (Nat.le_of_ble_eq_true rfl) E d_X12_dayGoes_247 rfl ?_
    obtain ⟨g_7, h⟩ := kf_gd h
    obtain ⟨σ_8, eσ_8, h⟩ := kf_lte h
    refine wa_iast (kf_wtf hty 52 49 k_v0 (by decide) rfl) g_7 E d_X12_dayGoes_250 eσ_8 ?_
    obtain ⟨v3_9, ev3_9, h⟩ := kf_lte h
    refine wa_iinc (lv' := [(3, .int v3_9), (0, .ref (kf_ad G v0)), (2, .int v2)]) v3_9 2 rfl (kf_inc ic_1 ev3_9) (by decide) rfl E d_X12_dayGoes_251 ?_
    refine wa_goto E d_X12_dayGoes_254 ?_
    refine wa_sub [1, 2, 0] rfl ?_
    exact hrec211 v0 v2 v3_9 k_v0 σ_8 h
theorem b_X12_dayGoes_211 {X : kf_X} {G : kf_G} {rec171 : Nat → Int32 → kf_St → Option kf_St} {q : kf_St} (E : kf_ok X G cX12_dayGoes RX12 4 none (5)) (hty : kf_wt G) (hrec171 : ∀ (v0 : Nat) (v2 : Int32) (k_v0 : kf_kd G v0 = 13) (σ : kf_St), rec171 v0 v2 σ = some q → kf_WA X G 4 (kf_Q X G none q) 171 [(0, .ref (kf_ad G v0)), (2, .int v2)] [] σ) : ∀ (N : Nat) (v0 : Nat) (v2 : Int32) (v3 : Int32) (k_v0 : kf_kd G v0 = 13) (σ : kf_St) (_ : f_X12_dayGoes_211 rec171 N v0 v2 v3 σ = some q), kf_WA X G 4 (kf_Q X G none q) 211 [(0, .ref (kf_ad G v0)), (2, .int v2), (3, .int v3)] [] σ
  | 0, _, _, _, _, _, h => by cases h
  | N + 1, v0, v2, v3, k_v0, σ, h => b_X12_dayGoes_211_s _ E hty hrec171 (b_X12_dayGoes_211 E hty hrec171 N) v0 v2 v3 k_v0 σ h
def f_X12_dayGoes_186_s (rec171 : Nat → Int32 → kf_St → Option kf_St) (rec186 : Nat → Int32 → Int32 → kf_St → Option kf_St) (v0 : Nat) (v2 : Int32) (v3 : Int32) (σ : kf_St) : Option kf_St :=
  if 4 ≤ v3 then
    f_X12_dayGoes_211 rec171 kf_F v0 v2 0 σ
  else
    (f_X12_wearsOf v0 v2 v3 σ).bind fun q_2 =>
    if kf_ix v3 (kf_ln (kf_rf v0 55)) = true then
    kf_lt (kf_wi q_2.2 (kf_rf v0 55) (Int32.toNatClampNeg v3) q_2.1) fun σ_4 =>
    kf_lt (v3 + 1) fun v3_5 =>
    rec186 v0 v2 v3_5 σ_4
    else none
def f_X12_dayGoes_186 (rec171 : Nat → Int32 → kf_St → Option kf_St) : Nat → Nat → Int32 → Int32 → kf_St → Option kf_St
  | 0, _, _, _, _ => none
  | n + 1, v0, v2, v3, σ => f_X12_dayGoes_186_s rec171 (f_X12_dayGoes_186 rec171 n) v0 v2 v3 σ
set_option maxRecDepth 100000 in
set_option maxHeartbeats 4000000 in
theorem b_X12_dayGoes_186_s {X : kf_X} {G : kf_G} {rec171 : Nat → Int32 → kf_St → Option kf_St} (rec186 : Nat → Int32 → Int32 → kf_St → Option kf_St) {q : kf_St} (E : kf_ok X G cX12_dayGoes RX12 4 none (5)) (hty : kf_wt G) (hrec171 : ∀ (v0 : Nat) (v2 : Int32) (k_v0 : kf_kd G v0 = 13) (σ : kf_St), rec171 v0 v2 σ = some q → kf_WA X G 4 (kf_Q X G none q) 171 [(0, .ref (kf_ad G v0)), (2, .int v2)] [] σ) (hrec186 : ∀ (v0 : Nat) (v2 : Int32) (v3 : Int32) (k_v0 : kf_kd G v0 = 13) (σ : kf_St), rec186 v0 v2 v3 σ = some q → kf_WA X G 4 (kf_Q X G none q) 186 [(0, .ref (kf_ad G v0)), (2, .int v2), (3, .int v3)] [] σ) (v0 : Nat) (v2 : Int32) (v3 : Int32) (k_v0 : kf_kd G v0 = 13) (σ : kf_St) (h : f_X12_dayGoes_186_s rec171 rec186 v0 v2 v3 σ = some q) : kf_WA X G 4 (kf_Q X G none q) 186 [(0, .ref (kf_ad G v0)), (2, .int v2), (3, .int v3)] [] σ := by
  unfold f_X12_dayGoes_186_s at h
  refine wa_iload_n 2 rfl E d_X12_dayGoes_186 ?_
  refine wa_iconst 4 ic_4 E d_X12_dayGoes_187 ?_
  refine wa_icmp_ge E d_X12_dayGoes_188 (fun c_1 => ?_) (fun c_1 => ?_)
  · replace h := kf_ift c_1 h
    refine wa_iconst 0 ic_0 E d_X12_dayGoes_209 ?_
    refine wa_istore_n (lv' := [(3, .int 0), (0, .ref (kf_ad G v0)), (2, .int v2)]) rfl (by decide) rfl E d_X12_dayGoes_210 ?_
    refine wa_sub [1, 2, 0] rfl ?_
    exact b_X12_dayGoes_211 E hty hrec171 kf_F v0 v2 0 k_v0 σ h
  · replace h := kf_iff c_1 h
    refine wa_aload_n 0 rfl E d_X12_dayGoes_191 ?_
    refine wa_getR fl_X12_125 k_v0 rfl E d_X12_dayGoes_192 ?_
    refine wa_iload_n 2 rfl E d_X12_dayGoes_195 ?_
    refine wa_aload_n 0 rfl E d_X12_dayGoes_196 ?_
    refine wa_iload_n 1 rfl E d_X12_dayGoes_197 ?_
    refine wa_iload_n 2 rfl E d_X12_dayGoes_198 ?_
    obtain ⟨q_2, hq_2, h⟩ := kf_bd h
    refine wa_callV (st2 := [.int q_2.1, .int v3, .ref (kf_ad G (kf_rf v0 55))]) (c_X12_wearsOf hty v0 v2 v3 k_v0 σ hq_2) mv_X12_wearsOf ml_X12_381 k_v0 rfl (Nat.le_of_ble_eq_true rfl) rfl (Nat.le_of_ble_eq_true rfl) E d_X12_dayGoes_199 rfl ?_
    obtain ⟨g_3, h⟩ := kf_gd h
    obtain ⟨σ_4, eσ_4, h⟩ := kf_lte h
    refine wa_iast (kf_wtf hty 55 49 k_v0 (by decide) rfl) g_3 E d_X12_dayGoes_202 eσ_4 ?_
    obtain ⟨v3_5, ev3_5, h⟩ := kf_lte h
    refine wa_iinc (lv' := [(3, .int v3_5), (0, .ref (kf_ad G v0)), (2, .int v2)]) v3_5 2 rfl (kf_inc ic_1 ev3_5) (by decide) rfl E d_X12_dayGoes_203 ?_
    refine wa_goto E d_X12_dayGoes_206 ?_
    refine wa_sub [1, 2, 0] rfl ?_
    exact hrec186 v0 v2 v3_5 k_v0 σ_4 h
theorem b_X12_dayGoes_186 {X : kf_X} {G : kf_G} {rec171 : Nat → Int32 → kf_St → Option kf_St} {q : kf_St} (E : kf_ok X G cX12_dayGoes RX12 4 none (5)) (hty : kf_wt G) (hrec171 : ∀ (v0 : Nat) (v2 : Int32) (k_v0 : kf_kd G v0 = 13) (σ : kf_St), rec171 v0 v2 σ = some q → kf_WA X G 4 (kf_Q X G none q) 171 [(0, .ref (kf_ad G v0)), (2, .int v2)] [] σ) : ∀ (N : Nat) (v0 : Nat) (v2 : Int32) (v3 : Int32) (k_v0 : kf_kd G v0 = 13) (σ : kf_St) (_ : f_X12_dayGoes_186 rec171 N v0 v2 v3 σ = some q), kf_WA X G 4 (kf_Q X G none q) 186 [(0, .ref (kf_ad G v0)), (2, .int v2), (3, .int v3)] [] σ
  | 0, _, _, _, _, _, h => by cases h
  | N + 1, v0, v2, v3, k_v0, σ, h => b_X12_dayGoes_186_s _ E hty hrec171 (b_X12_dayGoes_186 E hty hrec171 N) v0 v2 v3 k_v0 σ h
def f_X12_dayGoes_171_s (rec171 : Nat → Int32 → kf_St → Option kf_St) (v0 : Nat) (v2 : Int32) (σ : kf_St) : Option kf_St :=
  if kf_ix (σ.1 v0 18) (kf_ln (kf_rf v0 23)) = true then
  if (σ.1 (kf_rf v0 23) (Int32.toNatClampNeg (σ.1 v0 18))) ≤ v2 then
    f_X12_dayGoes_265 kf_F v0 0 σ
  else
    f_X12_dayGoes_186 rec171 kf_F v0 v2 0 σ
  else none
def f_X12_dayGoes_171 : Nat → Nat → Int32 → kf_St → Option kf_St
  | 0, _, _, _ => none
  | n + 1, v0, v2, σ => f_X12_dayGoes_171_s (f_X12_dayGoes_171 n) v0 v2 σ
set_option maxRecDepth 100000 in
set_option maxHeartbeats 4000000 in
theorem b_X12_dayGoes_171_s {X : kf_X} {G : kf_G} (rec171 : Nat → Int32 → kf_St → Option kf_St) {q : kf_St} (E : kf_ok X G cX12_dayGoes RX12 4 none (5)) (hty : kf_wt G) (hrec171 : ∀ (v0 : Nat) (v2 : Int32) (k_v0 : kf_kd G v0 = 13) (σ : kf_St), rec171 v0 v2 σ = some q → kf_WA X G 4 (kf_Q X G none q) 171 [(0, .ref (kf_ad G v0)), (2, .int v2)] [] σ) (v0 : Nat) (v2 : Int32) (k_v0 : kf_kd G v0 = 13) (σ : kf_St) (h : f_X12_dayGoes_171_s rec171 v0 v2 σ = some q) : kf_WA X G 4 (kf_Q X G none q) 171 [(0, .ref (kf_ad G v0)), (2, .int v2)] [] σ := by
  unfold f_X12_dayGoes_171_s at h
  refine wa_iload_n 1 rfl E d_X12_dayGoes_171 ?_
  refine wa_aload_n 0 rfl E d_X12_dayGoes_172 ?_
  refine wa_getR fl_X12_46 k_v0 rfl E d_X12_dayGoes_173 ?_
  refine wa_aload_n 0 rfl E d_X12_dayGoes_176 ?_
  refine wa_getI fl_X12_233 k_v0 rfl E d_X12_dayGoes_177 ?_
  obtain ⟨g_1, h⟩ := kf_gd h
  refine wa_iald (kf_wtf hty 23 49 k_v0 (by decide) rfl) g_1 E d_X12_dayGoes_180 ?_
  refine wa_icmp_ge E d_X12_dayGoes_181 (fun c_2 => ?_) (fun c_2 => ?_)
  · replace h := kf_ift c_2 h
    refine wa_iconst 0 ic_0 E d_X12_dayGoes_263 ?_
    refine wa_istore_n (lv' := [(2, .int 0), (0, .ref (kf_ad G v0))]) rfl (by decide) rfl E d_X12_dayGoes_264 ?_
    refine wa_sub [1, 0] rfl ?_
    exact b_X12_dayGoes_265 E hty kf_F v0 0 k_v0 σ h
  · replace h := kf_iff c_2 h
    refine wa_iconst 0 ic_0 E d_X12_dayGoes_184 ?_
    refine wa_istore_n (lv' := [(3, .int 0), (0, .ref (kf_ad G v0)), (2, .int v2)]) rfl (by decide) rfl E d_X12_dayGoes_185 ?_
    refine wa_sub [1, 2, 0] rfl ?_
    exact b_X12_dayGoes_186 E hty hrec171 kf_F v0 v2 0 k_v0 σ h
theorem b_X12_dayGoes_171 {X : kf_X} {G : kf_G} {q : kf_St} (E : kf_ok X G cX12_dayGoes RX12 4 none (5)) (hty : kf_wt G) : ∀ (N : Nat) (v0 : Nat) (v2 : Int32) (k_v0 : kf_kd G v0 = 13) (σ : kf_St) (_ : f_X12_dayGoes_171 N v0 v2 σ = some q), kf_WA X G 4 (kf_Q X G none q) 171 [(0, .ref (kf_ad G v0)), (2, .int v2)] [] σ
  | 0, _, _, _, _, h => by cases h
  | N + 1, v0, v2, k_v0, σ, h => b_X12_dayGoes_171_s _ E hty (b_X12_dayGoes_171 E hty N) v0 v2 k_v0 σ h
def f_X12_dayGoes_169 (v0 : Nat) (σ : kf_St) : Option kf_St :=
  f_X12_dayGoes_171 kf_F v0 0 σ
set_option maxRecDepth 100000 in
set_option maxHeartbeats 4000000 in
theorem b_X12_dayGoes_169 {X : kf_X} {G : kf_G} {q : kf_St} (E : kf_ok X G cX12_dayGoes RX12 4 none (5)) (hty : kf_wt G) (v0 : Nat) (k_v0 : kf_kd G v0 = 13) (σ : kf_St) (h : f_X12_dayGoes_169 v0 σ = some q) : kf_WA X G 4 (kf_Q X G none q) 169 [(0, .ref (kf_ad G v0))] [] σ := by
  unfold f_X12_dayGoes_169 at h
  refine wa_iconst 0 ic_0 E d_X12_dayGoes_169 ?_
  refine wa_istore_n (lv' := [(2, .int 0), (0, .ref (kf_ad G v0))]) rfl (by decide) rfl E d_X12_dayGoes_170 ?_
  refine wa_sub [1, 0] rfl ?_
  exact b_X12_dayGoes_171 E hty kf_F v0 0 k_v0 σ h
def f_X12_dayGoes_163 (rec103 : Nat → Int32 → Int32 → kf_St → Option kf_St) (v0 : Nat) (v1 : Int32) (v2 : Int32) (σ : kf_St) : Option kf_St :=
  kf_lt (v2 + 1) fun v2_1 =>
  rec103 v0 v1 v2_1 σ
set_option maxRecDepth 100000 in
set_option maxHeartbeats 4000000 in
theorem b_X12_dayGoes_163 {X : kf_X} {G : kf_G} {rec103 : Nat → Int32 → Int32 → kf_St → Option kf_St} {q : kf_St} (E : kf_ok X G cX12_dayGoes RX12 4 none (5)) (hty : kf_wt G) (hrec103 : ∀ (v0 : Nat) (v1 : Int32) (v2 : Int32) (k_v0 : kf_kd G v0 = 13) (σ : kf_St), rec103 v0 v1 v2 σ = some q → kf_WA X G 4 (kf_Q X G none q) 103 [(0, .ref (kf_ad G v0)), (1, .int v1), (2, .int v2)] [] σ) (v0 : Nat) (v1 : Int32) (v2 : Int32) (k_v0 : kf_kd G v0 = 13) (σ : kf_St) (h : f_X12_dayGoes_163 rec103 v0 v1 v2 σ = some q) : kf_WA X G 4 (kf_Q X G none q) 163 [(0, .ref (kf_ad G v0)), (1, .int v1), (2, .int v2)] [] σ := by
  unfold f_X12_dayGoes_163 at h
  obtain ⟨v2_1, ev2_1, h⟩ := kf_lte h
  refine wa_iinc (lv' := [(2, .int v2_1), (0, .ref (kf_ad G v0)), (1, .int v1)]) v2_1 2 rfl (kf_inc ic_1 ev2_1) (by decide) rfl E d_X12_dayGoes_163 ?_
  refine wa_goto E d_X12_dayGoes_166 ?_
  refine wa_sub [1, 2, 0] rfl ?_
  exact hrec103 v0 v1 v2_1 k_v0 σ h
def f_X12_dayGoes_103_s (rec103 : Nat → Int32 → Int32 → kf_St → Option kf_St) (v0 : Nat) (v1 : Int32) (v2 : Int32) (σ : kf_St) : Option kf_St :=
  if kf_ix (σ.1 v0 18) (kf_ln (kf_rf v0 23)) = true then
  if (σ.1 (kf_rf v0 23) (Int32.toNatClampNeg (σ.1 v0 18))) ≤ v2 then
    f_X12_dayGoes_169 v0 σ
  else
    if v1 = 0 then
      f_X12_dayGoes_169 v0 σ
    else
      if kf_ix 69 (kf_ln (kf_rf v0 52)) = true then
      (f_X12_lotOf v0 (((16 * (σ.1 (kf_rf v0 52) (Int32.toNatClampNeg 69))) + 1) + v2) 4 σ).bind fun q_5 =>
      kf_lt (((4 * v2) + q_5.1)) fun v3_6 =>
      if kf_ix v3_6 (kf_ln (kf_rf v0 52)) = true then
      if (q_5.2.1 (kf_rf v0 52) (Int32.toNatClampNeg v3_6)) ≤ 0 then
        f_X12_dayGoes_163 rec103 v0 v1 v2 q_5.2
      else
        if kf_ix v3_6 (kf_ln (kf_rf v0 52)) = true then
        if kf_ix v3_6 (kf_ln (kf_rf v0 52)) = true then
        kf_lt (kf_wi q_5.2 (kf_rf v0 52) (Int32.toNatClampNeg v3_6) ((q_5.2.1 (kf_rf v0 52) (Int32.toNatClampNeg v3_6)) - 1)) fun σ_11 =>
        f_X12_dayGoes_163 rec103 v0 v1 v2 σ_11
        else none
        else none
      else none
      else none
  else none
def f_X12_dayGoes_103 : Nat → Nat → Int32 → Int32 → kf_St → Option kf_St
  | 0, _, _, _, _ => none
  | n + 1, v0, v1, v2, σ => f_X12_dayGoes_103_s (f_X12_dayGoes_103 n) v0 v1 v2 σ
set_option maxRecDepth 100000 in
set_option maxHeartbeats 4000000 in
theorem b_X12_dayGoes_103_s {X : kf_X} {G : kf_G} (rec103 : Nat → Int32 → Int32 → kf_St → Option kf_St) {q : kf_St} (E : kf_ok X G cX12_dayGoes RX12 4 none (5)) (hty : kf_wt G) (hrec103 : ∀ (v0 : Nat) (v1 : Int32) (v2 : Int32) (k_v0 : kf_kd G v0 = 13) (σ : kf_St), rec103 v0 v1 v2 σ = some q → kf_WA X G 4 (kf_Q X G none q) 103 [(0, .ref (kf_ad G v0)), (1, .int v1), (2, .int v2)] [] σ) (v0 : Nat) (v1 : Int32) (v2 : Int32) (k_v0 : kf_kd G v0 = 13) (σ : kf_St) (h : f_X12_dayGoes_103_s rec103 v0 v1 v2 σ = some q) : kf_WA X G 4 (kf_Q X G none q) 103 [(0, .ref (kf_ad G v0)), (1, .int v1), (2, .int v2)] [] σ := by
  unfold f_X12_dayGoes_103_s at h
  refine wa_iload_n 2 rfl E d_X12_dayGoes_103 ?_
  refine wa_aload_n 0 rfl E d_X12_dayGoes_104 ?_
  refine wa_getR fl_X12_46 k_v0 rfl E d_X12_dayGoes_105 ?_
  refine wa_aload_n 0 rfl E d_X12_dayGoes_108 ?_
  refine wa_getI fl_X12_233 k_v0 rfl E d_X12_dayGoes_109 ?_
  obtain ⟨g_1, h⟩ := kf_gd h
  refine wa_iald (kf_wtf hty 23 49 k_v0 (by decide) rfl) g_1 E d_X12_dayGoes_112 ?_
  refine wa_icmp_ge E d_X12_dayGoes_113 (fun c_2 => ?_) (fun c_2 => ?_)
  · replace h := kf_ift c_2 h
    refine wa_sub [0] rfl ?_
    exact b_X12_dayGoes_169 E hty v0 k_v0 σ h
  · replace h := kf_iff c_2 h
    refine wa_iload_n 1 rfl E d_X12_dayGoes_116 ?_
    refine wa_if_eq E d_X12_dayGoes_117 (fun c_3 => ?_) (fun c_3 => ?_)
    · replace h := kf_ift c_3 h
      refine wa_sub [0] rfl ?_
      exact b_X12_dayGoes_169 E hty v0 k_v0 σ h
    · replace h := kf_iff c_3 h
      refine wa_iconst 4 ic_4 E d_X12_dayGoes_120 ?_
      refine wa_iload_n 2 rfl E d_X12_dayGoes_121 ?_
      refine wa_imul E d_X12_dayGoes_122 ?_
      refine wa_aload_n 0 rfl E d_X12_dayGoes_123 ?_
      refine wa_bipush 16 bp_16 E d_X12_dayGoes_124 ?_
      refine wa_aload_n 0 rfl E d_X12_dayGoes_126 ?_
      refine wa_getR fl_X12_122 k_v0 rfl E d_X12_dayGoes_127 ?_
      refine wa_bipush 69 bp_69 E d_X12_dayGoes_130 ?_
      obtain ⟨g_4, h⟩ := kf_gd h
      refine wa_iald (kf_wtf hty 52 49 k_v0 (by decide) rfl) g_4 E d_X12_dayGoes_132 ?_
      refine wa_imul E d_X12_dayGoes_133 ?_
      refine wa_iconst 1 ic_1 E d_X12_dayGoes_134 ?_
      refine wa_iadd E d_X12_dayGoes_135 ?_
      refine wa_iload_n 2 rfl E d_X12_dayGoes_136 ?_
      refine wa_iadd E d_X12_dayGoes_137 ?_
      refine wa_iconst 4 ic_4 E d_X12_dayGoes_138 ?_
      obtain ⟨q_5, hq_5, h⟩ := kf_bd h
      refine wa_callV (st2 := [.int q_5.1, .int (4 * v2)]) (c_X12_lotOf hty v0 (((16 * (σ.1 (kf_rf v0 52) (Int32.toNatClampNeg 69))) + 1) + v2) 4 k_v0 σ hq_5) mv_X12_lotOf ml_X12_330 k_v0 rfl (Nat.le_of_ble_eq_true rfl) rfl (Nat.le_of_ble_eq_true rfl) E d_X12_dayGoes_139 rfl ?_
      refine wa_iadd E d_X12_dayGoes_142 ?_
      obtain ⟨v3_6, ev3_6, h⟩ := kf_lte h
      refine wa_topi ev3_6 ?_
      refine wa_istore_n (lv' := [(3, .int v3_6), (0, .ref (kf_ad G v0)), (1, .int v1), (2, .int v2)]) rfl (by decide) rfl E d_X12_dayGoes_143 ?_
      refine wa_aload_n 1 rfl E d_X12_dayGoes_144 ?_
      refine wa_getR fl_X12_122 k_v0 rfl E d_X12_dayGoes_145 ?_
      refine wa_iload_n 0 rfl E d_X12_dayGoes_148 ?_
      obtain ⟨g_7, h⟩ := kf_gd h
      refine wa_iald (kf_wtf hty 52 49 k_v0 (by decide) rfl) g_7 E d_X12_dayGoes_149 ?_
      refine wa_if_le E d_X12_dayGoes_150 (fun c_8 => ?_) (fun c_8 => ?_)
      · replace h := kf_ift c_8 h
        refine wa_sub [1, 2, 3] rfl ?_
        exact b_X12_dayGoes_163 E hty hrec103 v0 v1 v2 k_v0 q_5.2 h
      · replace h := kf_iff c_8 h
        refine wa_aload_n 1 rfl E d_X12_dayGoes_153 ?_
        refine wa_getR fl_X12_122 k_v0 rfl E d_X12_dayGoes_154 ?_
        refine wa_iload_n 0 rfl E d_X12_dayGoes_157 ?_
        refine wa_dup2 rfl rfl E d_X12_dayGoes_158 ?_
        obtain ⟨g_9, h⟩ := kf_gd h
        refine wa_iald (kf_wtf hty 52 49 k_v0 (by decide) rfl) g_9 E d_X12_dayGoes_159 ?_
        refine wa_iconst 1 ic_1 E d_X12_dayGoes_160 ?_
        refine wa_isub E d_X12_dayGoes_161 ?_
        obtain ⟨g_10, h⟩ := kf_gd h
        obtain ⟨σ_11, eσ_11, h⟩ := kf_lte h
        refine wa_iast (kf_wtf hty 52 49 k_v0 (by decide) rfl) g_10 E d_X12_dayGoes_162 eσ_11 ?_
        refine wa_sub [1, 2, 3] rfl ?_
        exact b_X12_dayGoes_163 E hty hrec103 v0 v1 v2 k_v0 σ_11 h
theorem b_X12_dayGoes_103 {X : kf_X} {G : kf_G} {q : kf_St} (E : kf_ok X G cX12_dayGoes RX12 4 none (5)) (hty : kf_wt G) : ∀ (N : Nat) (v0 : Nat) (v1 : Int32) (v2 : Int32) (k_v0 : kf_kd G v0 = 13) (σ : kf_St) (_ : f_X12_dayGoes_103 N v0 v1 v2 σ = some q), kf_WA X G 4 (kf_Q X G none q) 103 [(0, .ref (kf_ad G v0)), (1, .int v1), (2, .int v2)] [] σ
  | 0, _, _, _, _, _, h => by cases h
  | N + 1, v0, v1, v2, k_v0, σ, h => b_X12_dayGoes_103_s _ E hty (b_X12_dayGoes_103 E hty N) v0 v1 v2 k_v0 σ h
def f_X12_dayGoes_100 (v0 : Nat) (s0 : Int32) (σ : kf_St) : Option kf_St :=
  f_X12_dayGoes_103 kf_F v0 s0 0 σ
set_option maxRecDepth 100000 in
set_option maxHeartbeats 4000000 in
theorem b_X12_dayGoes_100 {X : kf_X} {G : kf_G} {q : kf_St} (E : kf_ok X G cX12_dayGoes RX12 4 none (5)) (hty : kf_wt G) (v0 : Nat) (s0 : Int32) (k_v0 : kf_kd G v0 = 13) (σ : kf_St) (h : f_X12_dayGoes_100 v0 s0 σ = some q) : kf_WA X G 4 (kf_Q X G none q) 100 [(0, .ref (kf_ad G v0))] [.int s0] σ := by
  unfold f_X12_dayGoes_100 at h
  refine wa_istore_n (lv' := [(1, .int s0), (0, .ref (kf_ad G v0))]) rfl (by decide) rfl E d_X12_dayGoes_100 ?_
  refine wa_iconst 0 ic_0 E d_X12_dayGoes_101 ?_
  refine wa_istore_n (lv' := [(2, .int 0), (1, .int s0), (0, .ref (kf_ad G v0))]) rfl (by decide) rfl E d_X12_dayGoes_102 ?_
  refine wa_sub [2, 1, 0] rfl ?_
  exact b_X12_dayGoes_103 E hty kf_F v0 s0 0 k_v0 σ h
def f_X12_dayGoes_99 (v0 : Nat) (σ : kf_St) : Option kf_St :=
  f_X12_dayGoes_100 v0 0 σ
set_option maxRecDepth 100000 in
set_option maxHeartbeats 4000000 in
theorem b_X12_dayGoes_99 {X : kf_X} {G : kf_G} {q : kf_St} (E : kf_ok X G cX12_dayGoes RX12 4 none (5)) (hty : kf_wt G) (v0 : Nat) (k_v0 : kf_kd G v0 = 13) (σ : kf_St) (h : f_X12_dayGoes_99 v0 σ = some q) : kf_WA X G 4 (kf_Q X G none q) 99 [(0, .ref (kf_ad G v0))] [] σ := by
  unfold f_X12_dayGoes_99 at h
  refine wa_iconst 0 ic_0 E d_X12_dayGoes_99 ?_
  exact b_X12_dayGoes_100 E hty v0 0 k_v0 σ h
def f_X12_dayGoes_75 (rec2 : Nat → Int32 → kf_St → Option kf_St) (v0 : Nat) (v1 : Int32) (σ : kf_St) : Option kf_St :=
  kf_lt (v1 + 1) fun v1_1 =>
  rec2 v0 v1_1 σ
set_option maxRecDepth 100000 in
set_option maxHeartbeats 4000000 in
theorem b_X12_dayGoes_75 {X : kf_X} {G : kf_G} {rec2 : Nat → Int32 → kf_St → Option kf_St} {q : kf_St} (E : kf_ok X G cX12_dayGoes RX12 4 none (5)) (hty : kf_wt G) (hrec2 : ∀ (v0 : Nat) (v1 : Int32) (k_v0 : kf_kd G v0 = 13) (σ : kf_St), rec2 v0 v1 σ = some q → kf_WA X G 4 (kf_Q X G none q) 2 [(0, .ref (kf_ad G v0)), (1, .int v1)] [] σ) (v0 : Nat) (v1 : Int32) (k_v0 : kf_kd G v0 = 13) (σ : kf_St) (h : f_X12_dayGoes_75 rec2 v0 v1 σ = some q) : kf_WA X G 4 (kf_Q X G none q) 75 [(0, .ref (kf_ad G v0)), (1, .int v1)] [] σ := by
  unfold f_X12_dayGoes_75 at h
  obtain ⟨v1_1, ev1_1, h⟩ := kf_lte h
  refine wa_iinc (lv' := [(1, .int v1_1), (0, .ref (kf_ad G v0))]) v1_1 1 rfl (kf_inc ic_1 ev1_1) (by decide) rfl E d_X12_dayGoes_75 ?_
  refine wa_goto E d_X12_dayGoes_78 ?_
  refine wa_sub [1, 0] rfl ?_
  exact hrec2 v0 v1_1 k_v0 σ h
def f_X12_dayGoes_2_s (rec2 : Nat → Int32 → kf_St → Option kf_St) (v0 : Nat) (v1 : Int32) (σ : kf_St) : Option kf_St :=
  if kf_ix (σ.1 v0 18) (kf_ln (kf_rf v0 27)) = true then
  if (σ.1 (kf_rf v0 27) (Int32.toNatClampNeg (σ.1 v0 18))) ≤ v1 then
    if (σ.1 v0 54) = 0 then
      (f_X12_isWind v0 σ).bind fun q_4 =>
      if q_4.1 = 0 then
        f_X12_dayGoes_99 v0 q_4.2
      else
        f_X12_dayGoes_100 v0 1 q_4.2
    else
      f_X12_dayGoes_99 v0 σ
  else
    if kf_ix (54 + v1) (kf_ln (kf_rf v0 52)) = true then
    if (σ.1 (kf_rf v0 52) (Int32.toNatClampNeg (54 + v1))) = 1 then
      if kf_ix 69 (kf_ln (kf_rf v0 52)) = true then
      (f_X12_isDue v0 v1 (σ.1 (kf_rf v0 52) (Int32.toNatClampNeg 69)) σ).bind fun q_9 =>
      if q_9.1 = 0 then
        f_X12_dayGoes_75 rec2 v0 v1 q_9.2
      else
        if kf_ix ((10 * (q_9.2.1 v0 18)) + v1) (kf_ln (kf_rf v0 29)) = true then
        if kf_ix ((10 * (q_9.2.1 v0 18)) + v1) (kf_ln (kf_rf v0 28)) = true then
        (f_X12_lifted v0 (q_9.2.1 (kf_rf v0 29) (Int32.toNatClampNeg ((10 * (q_9.2.1 v0 18)) + v1))) (q_9.2.1 (kf_rf v0 28) (Int32.toNatClampNeg ((10 * (q_9.2.1 v0 18)) + v1))) q_9.2).bind fun q_13 =>
        f_X12_dayGoes_75 rec2 v0 v1 q_13
        else none
        else none
      else none
    else
      f_X12_dayGoes_75 rec2 v0 v1 σ
    else none
  else none
def f_X12_dayGoes_2 : Nat → Nat → Int32 → kf_St → Option kf_St
  | 0, _, _, _ => none
  | n + 1, v0, v1, σ => f_X12_dayGoes_2_s (f_X12_dayGoes_2 n) v0 v1 σ
set_option maxRecDepth 100000 in
set_option maxHeartbeats 4000000 in
theorem b_X12_dayGoes_2_s {X : kf_X} {G : kf_G} (rec2 : Nat → Int32 → kf_St → Option kf_St) {q : kf_St} (E : kf_ok X G cX12_dayGoes RX12 4 none (5)) (hty : kf_wt G) (hrec2 : ∀ (v0 : Nat) (v1 : Int32) (k_v0 : kf_kd G v0 = 13) (σ : kf_St), rec2 v0 v1 σ = some q → kf_WA X G 4 (kf_Q X G none q) 2 [(0, .ref (kf_ad G v0)), (1, .int v1)] [] σ) (v0 : Nat) (v1 : Int32) (k_v0 : kf_kd G v0 = 13) (σ : kf_St) (h : f_X12_dayGoes_2_s rec2 v0 v1 σ = some q) : kf_WA X G 4 (kf_Q X G none q) 2 [(0, .ref (kf_ad G v0)), (1, .int v1)] [] σ := by
  unfold f_X12_dayGoes_2_s at h
  refine wa_iload_n 1 rfl E d_X12_dayGoes_2 ?_
  refine wa_aload_n 0 rfl E d_X12_dayGoes_3 ?_
  refine wa_getR fl_X12_58 k_v0 rfl E d_X12_dayGoes_4 ?_
  refine wa_aload_n 0 rfl E d_X12_dayGoes_7 ?_
  refine wa_getI fl_X12_233 k_v0 rfl E d_X12_dayGoes_8 ?_
  obtain ⟨g_1, h⟩ := kf_gd h
  refine wa_iald (kf_wtf hty 27 49 k_v0 (by decide) rfl) g_1 E d_X12_dayGoes_11 ?_
  refine wa_icmp_ge E d_X12_dayGoes_12 (fun c_2 => ?_) (fun c_2 => ?_)
  · replace h := kf_ift c_2 h
    refine wa_aload_n 0 rfl E d_X12_dayGoes_81 ?_
    refine wa_getZ fl_X12_320 k_v0 rfl E d_X12_dayGoes_82 ?_
    refine wa_if_ne E d_X12_dayGoes_85 (fun c_3 => ?_) (fun c_3 => ?_)
    · replace h := kf_iff c_3 h
      refine wa_sub [0] rfl ?_
      exact b_X12_dayGoes_99 E hty v0 k_v0 σ h
    · replace h := kf_ift c_3 h
      refine wa_aload_n 0 rfl E d_X12_dayGoes_88 ?_
      obtain ⟨q_4, hq_4, h⟩ := kf_bd h
      refine wa_callV (st2 := [.int q_4.1]) (c_X12_isWind hty v0 k_v0 σ hq_4) mv_X12_isWind ml_X12_377 k_v0 rfl (Nat.le_of_ble_eq_true rfl) rfl (Nat.le_of_ble_eq_true rfl) E d_X12_dayGoes_89 rfl ?_
      refine wa_if_eq E d_X12_dayGoes_92 (fun c_5 => ?_) (fun c_5 => ?_)
      · replace h := kf_ift c_5 h
        refine wa_sub [0] rfl ?_
        exact b_X12_dayGoes_99 E hty v0 k_v0 q_4.2 h
      · replace h := kf_iff c_5 h
        refine wa_iconst 1 ic_1 E d_X12_dayGoes_95 ?_
        refine wa_goto E d_X12_dayGoes_96 ?_
        refine wa_sub [0] rfl ?_
        exact b_X12_dayGoes_100 E hty v0 1 k_v0 q_4.2 h
  · replace h := kf_iff c_2 h
    refine wa_aload_n 0 rfl E d_X12_dayGoes_15 ?_
    refine wa_getR fl_X12_122 k_v0 rfl E d_X12_dayGoes_16 ?_
    refine wa_bipush 54 bp_54 E d_X12_dayGoes_19 ?_
    refine wa_iload_n 1 rfl E d_X12_dayGoes_21 ?_
    refine wa_iadd E d_X12_dayGoes_22 ?_
    obtain ⟨g_6, h⟩ := kf_gd h
    refine wa_iald (kf_wtf hty 52 49 k_v0 (by decide) rfl) g_6 E d_X12_dayGoes_23 ?_
    refine wa_iconst 1 ic_1 E d_X12_dayGoes_24 ?_
    refine wa_icmp_ne E d_X12_dayGoes_25 (fun c_7 => ?_) (fun c_7 => ?_)
    · replace h := kf_iff c_7 h
      exact b_X12_dayGoes_75 E hty hrec2 v0 v1 k_v0 σ h
    · replace h := kf_ift c_7 h
      refine wa_aload_n 0 rfl E d_X12_dayGoes_28 ?_
      refine wa_iload_n 1 rfl E d_X12_dayGoes_29 ?_
      refine wa_aload_n 0 rfl E d_X12_dayGoes_30 ?_
      refine wa_getR fl_X12_122 k_v0 rfl E d_X12_dayGoes_31 ?_
      refine wa_bipush 69 bp_69 E d_X12_dayGoes_34 ?_
      obtain ⟨g_8, h⟩ := kf_gd h
      refine wa_iald (kf_wtf hty 52 49 k_v0 (by decide) rfl) g_8 E d_X12_dayGoes_36 ?_
      obtain ⟨q_9, hq_9, h⟩ := kf_bd h
      refine wa_callV (st2 := [.int q_9.1]) (c_X12_isDue hty v0 v1 (σ.1 (kf_rf v0 52) (Int32.toNatClampNeg 69)) k_v0 σ hq_9) mv_X12_isDue ml_X12_370 k_v0 rfl (Nat.le_of_ble_eq_true rfl) rfl (Nat.le_of_ble_eq_true rfl) E d_X12_dayGoes_37 rfl ?_
      refine wa_if_eq E d_X12_dayGoes_40 (fun c_10 => ?_) (fun c_10 => ?_)
      · replace h := kf_ift c_10 h
        exact b_X12_dayGoes_75 E hty hrec2 v0 v1 k_v0 q_9.2 h
      · replace h := kf_iff c_10 h
        refine wa_aload_n 0 rfl E d_X12_dayGoes_43 ?_
        refine wa_aload_n 0 rfl E d_X12_dayGoes_44 ?_
        refine wa_getR fl_X12_64 k_v0 rfl E d_X12_dayGoes_45 ?_
        refine wa_bipush 10 bp_10 E d_X12_dayGoes_48 ?_
        refine wa_aload_n 0 rfl E d_X12_dayGoes_50 ?_
        refine wa_getI fl_X12_233 k_v0 rfl E d_X12_dayGoes_51 ?_
        refine wa_imul E d_X12_dayGoes_54 ?_
        refine wa_iload_n 1 rfl E d_X12_dayGoes_55 ?_
        refine wa_iadd E d_X12_dayGoes_56 ?_
        obtain ⟨g_11, h⟩ := kf_gd h
        refine wa_iald (kf_wtf hty 29 49 k_v0 (by decide) rfl) g_11 E d_X12_dayGoes_57 ?_
        refine wa_aload_n 0 rfl E d_X12_dayGoes_58 ?_
        refine wa_getR fl_X12_61 k_v0 rfl E d_X12_dayGoes_59 ?_
        refine wa_bipush 10 bp_10 E d_X12_dayGoes_62 ?_
        refine wa_aload_n 0 rfl E d_X12_dayGoes_64 ?_
        refine wa_getI fl_X12_233 k_v0 rfl E d_X12_dayGoes_65 ?_
        refine wa_imul E d_X12_dayGoes_68 ?_
        refine wa_iload_n 1 rfl E d_X12_dayGoes_69 ?_
        refine wa_iadd E d_X12_dayGoes_70 ?_
        obtain ⟨g_12, h⟩ := kf_gd h
        refine wa_iald (kf_wtf hty 28 49 k_v0 (by decide) rfl) g_12 E d_X12_dayGoes_71 ?_
        obtain ⟨q_13, hq_13, h⟩ := kf_bd h
        refine wa_callV (st2 := []) (c_X12_lifted hty v0 (q_9.2.1 (kf_rf v0 29) (Int32.toNatClampNeg ((10 * (q_9.2.1 v0 18)) + v1))) (q_9.2.1 (kf_rf v0 28) (Int32.toNatClampNeg ((10 * (q_9.2.1 v0 18)) + v1))) k_v0 q_9.2 hq_13) mv_X12_lifted ml_X12_374 k_v0 rfl (Nat.le_of_ble_eq_true rfl) rfl (Nat.le_of_ble_eq_true rfl) E d_X12_dayGoes_72 rfl ?_
        exact b_X12_dayGoes_75 E hty hrec2 v0 v1 k_v0 q_13 h
theorem b_X12_dayGoes_2 {X : kf_X} {G : kf_G} {q : kf_St} (E : kf_ok X G cX12_dayGoes RX12 4 none (5)) (hty : kf_wt G) : ∀ (N : Nat) (v0 : Nat) (v1 : Int32) (k_v0 : kf_kd G v0 = 13) (σ : kf_St) (_ : f_X12_dayGoes_2 N v0 v1 σ = some q), kf_WA X G 4 (kf_Q X G none q) 2 [(0, .ref (kf_ad G v0)), (1, .int v1)] [] σ
  | 0, _, _, _, _, h => by cases h
  | N + 1, v0, v1, k_v0, σ, h => b_X12_dayGoes_2_s _ E hty (b_X12_dayGoes_2 E hty N) v0 v1 k_v0 σ h
def f_X12_dayGoes (v0 : Nat) (σ : kf_St) : Option kf_St :=
  f_X12_dayGoes_2 kf_F v0 0 σ
set_option maxRecDepth 100000 in
set_option maxHeartbeats 4000000 in
theorem c_X12_dayGoes {G : kf_G} (hty : kf_wt G) (v0 : Nat) (k_v0 : kf_kd G v0 = 13) (σ : kf_St) {q : kf_St} (h : f_X12_dayGoes v0 σ = some q) : kf_Ct (5) yX12_dayGoes cX12_dayGoes 4 none G [.ref (kf_ad G v0)] σ none q := by
  refine kf_Ct.of hty.1 (lv := [(0, .ref (kf_ad G v0))]) (by decide +kernel) rfl (Nat.le_of_ble_eq_true rfl) (fun X E => ?_)
  unfold f_X12_dayGoes at h
  refine wa_iconst 0 ic_0 E d_X12_dayGoes_0 ?_
  refine wa_istore_n (lv' := [(1, .int 0), (0, .ref (kf_ad G v0))]) rfl (by decide) rfl E d_X12_dayGoes_1 ?_
  refine wa_sub [1, 0] rfl ?_
  exact b_X12_dayGoes_2 E hty kf_F v0 0 k_v0 σ h
/-! X12_goes -/
theorem d_X12_goes_0 : kf_dq cX12_goes 0 1 1 (.iconst 0) := ⟨by decide +kernel, rfl⟩
theorem d_X12_goes_1 : kf_dq cX12_goes 1 2 1 (.istore_n 2) := ⟨by decide +kernel, rfl⟩
theorem d_X12_goes_2 : kf_dq cX12_goes 2 3 1 (.iload_n 2) := ⟨by decide +kernel, rfl⟩
theorem d_X12_goes_3 : kf_dq cX12_goes 3 4 1 (.iload_n 1) := ⟨by decide +kernel, rfl⟩
theorem d_X12_goes_4 : kf_dj cX12_goes 4 7 17 (.if_icmp .ge) := ⟨13, by decide +kernel, rfl, by decide⟩
theorem d_X12_goes_7 : kf_dq cX12_goes 7 8 1 (.aload_n 0) := ⟨by decide +kernel, rfl⟩
theorem d_X12_goes_8 : kf_dq cX12_goes 8 11 3 (.invokevirtual 384) := ⟨by decide +kernel, rfl⟩
theorem d_X12_goes_11 : kf_dq cX12_goes 11 14 3 (.iinc 2 1) := ⟨by decide +kernel, rfl⟩
theorem d_X12_goes_14 : kf_dj cX12_goes 14 17 2 .goto := ⟨(-12), by decide +kernel, rfl, by decide⟩
theorem d_X12_goes_17 : kf_dq cX12_goes 17 18 1 (.return_) := ⟨by decide +kernel, rfl⟩
def f_X12_goes_2_s (rec2 : Nat → Int32 → Int32 → kf_St → Option kf_St) (v0 : Nat) (v1 : Int32) (v2 : Int32) (σ : kf_St) : Option kf_St :=
  if v1 ≤ v2 then
    some σ
  else
    (f_X12_dayGoes v0 σ).bind fun q_2 =>
    kf_lt (v2 + 1) fun v2_3 =>
    rec2 v0 v1 v2_3 q_2
def f_X12_goes_2 : Nat → Nat → Int32 → Int32 → kf_St → Option kf_St
  | 0, _, _, _, _ => none
  | n + 1, v0, v1, v2, σ => f_X12_goes_2_s (f_X12_goes_2 n) v0 v1 v2 σ
set_option maxRecDepth 100000 in
set_option maxHeartbeats 4000000 in
theorem b_X12_goes_2_s {X : kf_X} {G : kf_G} (rec2 : Nat → Int32 → Int32 → kf_St → Option kf_St) {q : kf_St} (E : kf_ok X G cX12_goes RX12 3 none (6)) (hty : kf_wt G) (hrec2 : ∀ (v0 : Nat) (v1 : Int32) (v2 : Int32) (k_v0 : kf_kd G v0 = 13) (σ : kf_St), rec2 v0 v1 v2 σ = some q → kf_WA X G 3 (kf_Q X G none q) 2 [(0, .ref (kf_ad G v0)), (1, .int v1), (2, .int v2)] [] σ) (v0 : Nat) (v1 : Int32) (v2 : Int32) (k_v0 : kf_kd G v0 = 13) (σ : kf_St) (h : f_X12_goes_2_s rec2 v0 v1 v2 σ = some q) : kf_WA X G 3 (kf_Q X G none q) 2 [(0, .ref (kf_ad G v0)), (1, .int v1), (2, .int v2)] [] σ := by
  unfold f_X12_goes_2_s at h
  refine wa_iload_n 2 rfl E d_X12_goes_2 ?_
  refine wa_iload_n 1 rfl E d_X12_goes_3 ?_
  refine wa_icmp_ge E d_X12_goes_4 (fun c_1 => ?_) (fun c_1 => ?_)
  · replace h := kf_ift c_1 h
    cases h
    exact wa_vret E d_X12_goes_17
  · replace h := kf_iff c_1 h
    refine wa_aload_n 0 rfl E d_X12_goes_7 ?_
    obtain ⟨q_2, hq_2, h⟩ := kf_bd h
    refine wa_callV (st2 := []) (c_X12_dayGoes hty v0 k_v0 σ hq_2) mv_X12_dayGoes ml_X12_384 k_v0 rfl (Nat.le_of_ble_eq_true rfl) rfl (Nat.le_of_ble_eq_true rfl) E d_X12_goes_8 rfl ?_
    obtain ⟨v2_3, ev2_3, h⟩ := kf_lte h
    refine wa_iinc (lv' := [(2, .int v2_3), (0, .ref (kf_ad G v0)), (1, .int v1)]) v2_3 2 rfl (kf_inc ic_1 ev2_3) (by decide) rfl E d_X12_goes_11 ?_
    refine wa_goto E d_X12_goes_14 ?_
    refine wa_sub [1, 2, 0] rfl ?_
    exact hrec2 v0 v1 v2_3 k_v0 q_2 h
theorem b_X12_goes_2 {X : kf_X} {G : kf_G} {q : kf_St} (E : kf_ok X G cX12_goes RX12 3 none (6)) (hty : kf_wt G) : ∀ (N : Nat) (v0 : Nat) (v1 : Int32) (v2 : Int32) (k_v0 : kf_kd G v0 = 13) (σ : kf_St) (_ : f_X12_goes_2 N v0 v1 v2 σ = some q), kf_WA X G 3 (kf_Q X G none q) 2 [(0, .ref (kf_ad G v0)), (1, .int v1), (2, .int v2)] [] σ
  | 0, _, _, _, _, _, h => by cases h
  | N + 1, v0, v1, v2, k_v0, σ, h => b_X12_goes_2_s _ E hty (b_X12_goes_2 E hty N) v0 v1 v2 k_v0 σ h
def f_X12_goes (v0 : Nat) (v1 : Int32) (σ : kf_St) : Option kf_St :=
  f_X12_goes_2 kf_F v0 v1 0 σ
set_option maxRecDepth 100000 in
set_option maxHeartbeats 4000000 in
theorem c_X12_goes {G : kf_G} (hty : kf_wt G) (v0 : Nat) (v1 : Int32) (k_v0 : kf_kd G v0 = 13) (σ : kf_St) {q : kf_St} (h : f_X12_goes v0 v1 σ = some q) : kf_Ct (6) yX12_goes cX12_goes 3 none G [.ref (kf_ad G v0), .int v1] σ none q := by
  refine kf_Ct.of hty.1 (lv := [(0, .ref (kf_ad G v0)), (1, .int v1)]) (by decide +kernel) rfl (Nat.le_of_ble_eq_true rfl) (fun X E => ?_)
  unfold f_X12_goes at h
  refine wa_iconst 0 ic_0 E d_X12_goes_0 ?_
  refine wa_istore_n (lv' := [(2, .int 0), (0, .ref (kf_ad G v0)), (1, .int v1)]) rfl (by decide) rfl E d_X12_goes_1 ?_
  refine wa_sub [1, 2, 0] rfl ?_
  exact b_X12_goes_2 E hty kf_F v0 v1 0 k_v0 σ h
/-! X12_polished -/
theorem d_X12_polished_0 : kf_dq cX12_polished 0 1 1 (.iconst 0) := ⟨by decide +kernel, rfl⟩
theorem d_X12_polished_1 : kf_dq cX12_polished 1 2 1 (.istore_n 2) := ⟨by decide +kernel, rfl⟩
theorem d_X12_polished_2 : kf_dq cX12_polished 2 3 1 (.iload_n 2) := ⟨by decide +kernel, rfl⟩
theorem d_X12_polished_3 : kf_dq cX12_polished 3 4 1 (.iconst 4) := ⟨by decide +kernel, rfl⟩
theorem d_X12_polished_4 : kf_dj cX12_polished 4 7 63 (.if_icmp .ge) := ⟨59, by decide +kernel, rfl, by decide⟩
theorem d_X12_polished_7 : kf_dq cX12_polished 7 8 1 (.aload_n 0) := ⟨by decide +kernel, rfl⟩
theorem d_X12_polished_8 : kf_dq cX12_polished 8 11 3 (.getfield 122) := ⟨by decide +kernel, rfl⟩
theorem d_X12_polished_11 : kf_dq cX12_polished 11 12 1 (.iconst 4) := ⟨by decide +kernel, rfl⟩
theorem d_X12_polished_12 : kf_dq cX12_polished 12 13 1 (.iload_n 1) := ⟨by decide +kernel, rfl⟩
theorem d_X12_polished_13 : kf_dq cX12_polished 13 14 1 (.imul) := ⟨by decide +kernel, rfl⟩
theorem d_X12_polished_14 : kf_dq cX12_polished 14 15 1 (.iload_n 2) := ⟨by decide +kernel, rfl⟩
theorem d_X12_polished_15 : kf_dq cX12_polished 15 16 1 (.iadd) := ⟨by decide +kernel, rfl⟩
theorem d_X12_polished_16 : kf_dq cX12_polished 16 17 1 (.aload_n 0) := ⟨by decide +kernel, rfl⟩
theorem d_X12_polished_17 : kf_dq cX12_polished 17 20 3 (.getfield 122) := ⟨by decide +kernel, rfl⟩
theorem d_X12_polished_20 : kf_dq cX12_polished 20 21 1 (.iconst 4) := ⟨by decide +kernel, rfl⟩
theorem d_X12_polished_21 : kf_dq cX12_polished 21 22 1 (.iload_n 1) := ⟨by decide +kernel, rfl⟩
theorem d_X12_polished_22 : kf_dq cX12_polished 22 23 1 (.imul) := ⟨by decide +kernel, rfl⟩
theorem d_X12_polished_23 : kf_dq cX12_polished 23 24 1 (.iload_n 2) := ⟨by decide +kernel, rfl⟩
theorem d_X12_polished_24 : kf_dq cX12_polished 24 25 1 (.iadd) := ⟨by decide +kernel, rfl⟩
theorem d_X12_polished_25 : kf_dq cX12_polished 25 26 1 (.iaload) := ⟨by decide +kernel, rfl⟩
theorem d_X12_polished_26 : kf_dq cX12_polished 26 27 1 (.aload_n 0) := ⟨by decide +kernel, rfl⟩
theorem d_X12_polished_27 : kf_dq cX12_polished 27 28 1 (.iload_n 1) := ⟨by decide +kernel, rfl⟩
theorem d_X12_polished_28 : kf_dq cX12_polished 28 29 1 (.iload_n 2) := ⟨by decide +kernel, rfl⟩
theorem d_X12_polished_29 : kf_dq cX12_polished 29 32 3 (.invokevirtual 339) := ⟨by decide +kernel, rfl⟩
theorem d_X12_polished_32 : kf_dq cX12_polished 32 33 1 (.aload_n 0) := ⟨by decide +kernel, rfl⟩
theorem d_X12_polished_33 : kf_dq cX12_polished 33 36 3 (.getfield 122) := ⟨by decide +kernel, rfl⟩
theorem d_X12_polished_36 : kf_dq cX12_polished 36 37 1 (.iconst 4) := ⟨by decide +kernel, rfl⟩
theorem d_X12_polished_37 : kf_dq cX12_polished 37 38 1 (.iload_n 1) := ⟨by decide +kernel, rfl⟩
theorem d_X12_polished_38 : kf_dq cX12_polished 38 39 1 (.imul) := ⟨by decide +kernel, rfl⟩
theorem d_X12_polished_39 : kf_dq cX12_polished 39 40 1 (.iload_n 2) := ⟨by decide +kernel, rfl⟩
theorem d_X12_polished_40 : kf_dq cX12_polished 40 41 1 (.iadd) := ⟨by decide +kernel, rfl⟩
theorem d_X12_polished_41 : kf_dq cX12_polished 41 42 1 (.iaload) := ⟨by decide +kernel, rfl⟩
theorem d_X12_polished_42 : kf_dq cX12_polished 42 43 1 (.aload_n 0) := ⟨by decide +kernel, rfl⟩
theorem d_X12_polished_43 : kf_dq cX12_polished 43 44 1 (.iload_n 1) := ⟨by decide +kernel, rfl⟩
theorem d_X12_polished_44 : kf_dq cX12_polished 44 45 1 (.iload_n 2) := ⟨by decide +kernel, rfl⟩
theorem d_X12_polished_45 : kf_dq cX12_polished 45 48 3 (.invokevirtual 339) := ⟨by decide +kernel, rfl⟩
theorem d_X12_polished_48 : kf_dq cX12_polished 48 51 3 (.invokestatic 336) := ⟨by decide +kernel, rfl⟩
theorem d_X12_polished_51 : kf_dq cX12_polished 51 52 1 (.iconst 2) := ⟨by decide +kernel, rfl⟩
theorem d_X12_polished_52 : kf_dq cX12_polished 52 53 1 (.idiv) := ⟨by decide +kernel, rfl⟩
theorem d_X12_polished_53 : kf_dq cX12_polished 53 56 3 (.invokestatic 366) := ⟨by decide +kernel, rfl⟩
theorem d_X12_polished_56 : kf_dq cX12_polished 56 57 1 (.iastore) := ⟨by decide +kernel, rfl⟩
theorem d_X12_polished_57 : kf_dq cX12_polished 57 60 3 (.iinc 2 1) := ⟨by decide +kernel, rfl⟩
theorem d_X12_polished_60 : kf_dj cX12_polished 60 63 2 .goto := ⟨(-58), by decide +kernel, rfl, by decide⟩
theorem d_X12_polished_63 : kf_dq cX12_polished 63 64 1 (.aload_n 0) := ⟨by decide +kernel, rfl⟩
theorem d_X12_polished_64 : kf_dq cX12_polished 64 67 3 (.getfield 122) := ⟨by decide +kernel, rfl⟩
theorem d_X12_polished_67 : kf_dq cX12_polished 67 69 2 (.bipush 36) := ⟨by decide +kernel, rfl⟩
theorem d_X12_polished_69 : kf_dq cX12_polished 69 70 1 (.iload_n 1) := ⟨by decide +kernel, rfl⟩
theorem d_X12_polished_70 : kf_dq cX12_polished 70 71 1 (.iadd) := ⟨by decide +kernel, rfl⟩
theorem d_X12_polished_71 : kf_dq cX12_polished 71 72 1 (.dup2) := ⟨by decide +kernel, rfl⟩
theorem d_X12_polished_72 : kf_dq cX12_polished 72 73 1 (.iaload) := ⟨by decide +kernel, rfl⟩
theorem d_X12_polished_73 : kf_dq cX12_polished 73 74 1 (.iconst 1) := ⟨by decide +kernel, rfl⟩
theorem d_X12_polished_74 : kf_dq cX12_polished 74 75 1 (.iadd) := ⟨by decide +kernel, rfl⟩
theorem d_X12_polished_75 : kf_dq cX12_polished 75 76 1 (.iastore) := ⟨by decide +kernel, rfl⟩
theorem d_X12_polished_76 : kf_dq cX12_polished 76 77 1 (.return_) := ⟨by decide +kernel, rfl⟩
def f_X12_polished_2_s (rec2 : Nat → Int32 → Int32 → kf_St → Option kf_St) (v0 : Nat) (v1 : Int32) (v2 : Int32) (σ : kf_St) : Option kf_St :=
  if 4 ≤ v2 then
    if kf_ix (36 + v1) (kf_ln (kf_rf v0 52)) = true then
    if kf_ix (36 + v1) (kf_ln (kf_rf v0 52)) = true then
    kf_lt (kf_wi σ (kf_rf v0 52) (Int32.toNatClampNeg (36 + v1)) ((σ.1 (kf_rf v0 52) (Int32.toNatClampNeg (36 + v1))) + 1)) fun σ_4 =>
    some σ_4
    else none
    else none
  else
    if kf_ix ((4 * v1) + v2) (kf_ln (kf_rf v0 52)) = true then
    (f_X12_firstPart v0 v1 v2 σ).bind fun q_6 =>
    if kf_ix ((4 * v1) + v2) (kf_ln (kf_rf v0 52)) = true then
    (f_X12_firstPart v0 v1 v2 q_6.2).bind fun q_8 =>
    (f_X12_off (q_6.2.1 (kf_rf v0 52) (Int32.toNatClampNeg ((4 * v1) + v2))) q_8.1 q_8.2).bind fun q_9 =>
    if (2 : Int32) = 0 then none else
    (f_X12_towardsBy (σ.1 (kf_rf v0 52) (Int32.toNatClampNeg ((4 * v1) + v2))) q_6.1 (q_9.1 / 2) q_9.2).bind fun q_11 =>
    if kf_ix ((4 * v1) + v2) (kf_ln (kf_rf v0 52)) = true then
    kf_lt (kf_wi q_11.2 (kf_rf v0 52) (Int32.toNatClampNeg ((4 * v1) + v2)) q_11.1) fun σ_13 =>
    kf_lt (v2 + 1) fun v2_14 =>
    rec2 v0 v1 v2_14 σ_13
    else none
    else none
    else none
def f_X12_polished_2 : Nat → Nat → Int32 → Int32 → kf_St → Option kf_St
  | 0, _, _, _, _ => none
  | n + 1, v0, v1, v2, σ => f_X12_polished_2_s (f_X12_polished_2 n) v0 v1 v2 σ
set_option maxRecDepth 100000 in
set_option maxHeartbeats 4000000 in
theorem b_X12_polished_2_s {X : kf_X} {G : kf_G} (rec2 : Nat → Int32 → Int32 → kf_St → Option kf_St) {q : kf_St} (E : kf_ok X G cX12_polished RX12 3 none (2)) (hty : kf_wt G) (hrec2 : ∀ (v0 : Nat) (v1 : Int32) (v2 : Int32) (k_v0 : kf_kd G v0 = 13) (σ : kf_St), rec2 v0 v1 v2 σ = some q → kf_WA X G 3 (kf_Q X G none q) 2 [(0, .ref (kf_ad G v0)), (1, .int v1), (2, .int v2)] [] σ) (v0 : Nat) (v1 : Int32) (v2 : Int32) (k_v0 : kf_kd G v0 = 13) (σ : kf_St) (h : f_X12_polished_2_s rec2 v0 v1 v2 σ = some q) : kf_WA X G 3 (kf_Q X G none q) 2 [(0, .ref (kf_ad G v0)), (1, .int v1), (2, .int v2)] [] σ := by
  unfold f_X12_polished_2_s at h
  refine wa_iload_n 2 rfl E d_X12_polished_2 ?_
  refine wa_iconst 4 ic_4 E d_X12_polished_3 ?_
  refine wa_icmp_ge E d_X12_polished_4 (fun c_1 => ?_) (fun c_1 => ?_)
  · replace h := kf_ift c_1 h
    refine wa_aload_n 0 rfl E d_X12_polished_63 ?_
    refine wa_getR fl_X12_122 k_v0 rfl E d_X12_polished_64 ?_
    refine wa_bipush 36 bp_36 E d_X12_polished_67 ?_
    refine wa_iload_n 1 rfl E d_X12_polished_69 ?_
    refine wa_iadd E d_X12_polished_70 ?_
    refine wa_dup2 rfl rfl E d_X12_polished_71 ?_
    obtain ⟨g_2, h⟩ := kf_gd h
    refine wa_iald (kf_wtf hty 52 49 k_v0 (by decide) rfl) g_2 E d_X12_polished_72 ?_
    refine wa_iconst 1 ic_1 E d_X12_polished_73 ?_
    refine wa_iadd E d_X12_polished_74 ?_
    obtain ⟨g_3, h⟩ := kf_gd h
    obtain ⟨σ_4, eσ_4, h⟩ := kf_lte h
    refine wa_iast (kf_wtf hty 52 49 k_v0 (by decide) rfl) g_3 E d_X12_polished_75 eσ_4 ?_
    cases h
    exact wa_vret E d_X12_polished_76
  · replace h := kf_iff c_1 h
    refine wa_aload_n 0 rfl E d_X12_polished_7 ?_
    refine wa_getR fl_X12_122 k_v0 rfl E d_X12_polished_8 ?_
    refine wa_iconst 4 ic_4 E d_X12_polished_11 ?_
    refine wa_iload_n 1 rfl E d_X12_polished_12 ?_
    refine wa_imul E d_X12_polished_13 ?_
    refine wa_iload_n 2 rfl E d_X12_polished_14 ?_
    refine wa_iadd E d_X12_polished_15 ?_
    refine wa_aload_n 0 rfl E d_X12_polished_16 ?_
    refine wa_getR fl_X12_122 k_v0 rfl E d_X12_polished_17 ?_
    refine wa_iconst 4 ic_4 E d_X12_polished_20 ?_
    refine wa_iload_n 1 rfl E d_X12_polished_21 ?_
    refine wa_imul E d_X12_polished_22 ?_
    refine wa_iload_n 2 rfl E d_X12_polished_23 ?_
    refine wa_iadd E d_X12_polished_24 ?_
    obtain ⟨g_5, h⟩ := kf_gd h
    refine wa_iald (kf_wtf hty 52 49 k_v0 (by decide) rfl) g_5 E d_X12_polished_25 ?_
    refine wa_aload_n 0 rfl E d_X12_polished_26 ?_
    refine wa_iload_n 1 rfl E d_X12_polished_27 ?_
    refine wa_iload_n 2 rfl E d_X12_polished_28 ?_
    obtain ⟨q_6, hq_6, h⟩ := kf_bd h
    refine wa_callV (st2 := [.int q_6.1, .int (σ.1 (kf_rf v0 52) (Int32.toNatClampNeg ((4 * v1) + v2))), .int ((4 * v1) + v2), .ref (kf_ad G (kf_rf v0 52))]) (c_X12_firstPart hty v0 v1 v2 k_v0 σ hq_6) mv_X12_firstPart ml_X12_339 k_v0 rfl (Nat.le_of_ble_eq_true rfl) rfl (Nat.le_of_ble_eq_true rfl) E d_X12_polished_29 rfl ?_
    refine wa_aload_n 0 rfl E d_X12_polished_32 ?_
    refine wa_getR fl_X12_122 k_v0 rfl E d_X12_polished_33 ?_
    refine wa_iconst 4 ic_4 E d_X12_polished_36 ?_
    refine wa_iload_n 1 rfl E d_X12_polished_37 ?_
    refine wa_imul E d_X12_polished_38 ?_
    refine wa_iload_n 2 rfl E d_X12_polished_39 ?_
    refine wa_iadd E d_X12_polished_40 ?_
    obtain ⟨g_7, h⟩ := kf_gd h
    refine wa_iald (kf_wtf hty 52 49 k_v0 (by decide) rfl) g_7 E d_X12_polished_41 ?_
    refine wa_aload_n 0 rfl E d_X12_polished_42 ?_
    refine wa_iload_n 1 rfl E d_X12_polished_43 ?_
    refine wa_iload_n 2 rfl E d_X12_polished_44 ?_
    obtain ⟨q_8, hq_8, h⟩ := kf_bd h
    refine wa_callV (st2 := [.int q_8.1, .int (q_6.2.1 (kf_rf v0 52) (Int32.toNatClampNeg ((4 * v1) + v2))), .int q_6.1, .int (σ.1 (kf_rf v0 52) (Int32.toNatClampNeg ((4 * v1) + v2))), .int ((4 * v1) + v2), .ref (kf_ad G (kf_rf v0 52))]) (c_X12_firstPart hty v0 v1 v2 k_v0 q_6.2 hq_8) mv_X12_firstPart ml_X12_339 k_v0 rfl (Nat.le_of_ble_eq_true rfl) rfl (Nat.le_of_ble_eq_true rfl) E d_X12_polished_45 rfl ?_
    obtain ⟨q_9, hq_9, h⟩ := kf_bd h
    refine wa_callS (st2 := [.int q_9.1, .int q_6.1, .int (σ.1 (kf_rf v0 52) (Int32.toNatClampNeg ((4 * v1) + v2))), .int ((4 * v1) + v2), .ref (kf_ad G (kf_rf v0 52))]) (c_X12_off hty (q_6.2.1 (kf_rf v0 52) (Int32.toNatClampNeg ((4 * v1) + v2))) q_8.1 q_8.2 hq_9) mt_X12_off ml_X12_336 rfl (Nat.le_of_ble_eq_true rfl) rfl (Nat.le_of_ble_eq_true rfl) E d_X12_polished_48 rfl ?_
    refine wa_iconst 2 ic_2 E d_X12_polished_51 ?_
    obtain ⟨g_10, h⟩ := kf_gn h
    refine wa_idiv g_10 E d_X12_polished_52 ?_
    obtain ⟨q_11, hq_11, h⟩ := kf_bd h
    refine wa_callS (st2 := [.int q_11.1, .int ((4 * v1) + v2), .ref (kf_ad G (kf_rf v0 52))]) (c_X12_towardsBy hty (σ.1 (kf_rf v0 52) (Int32.toNatClampNeg ((4 * v1) + v2))) q_6.1 (q_9.1 / 2) q_9.2 hq_11) mt_X12_towardsBy ml_X12_366 rfl (Nat.le_of_ble_eq_true rfl) rfl (Nat.le_of_ble_eq_true rfl) E d_X12_polished_53 rfl ?_
    obtain ⟨g_12, h⟩ := kf_gd h
    obtain ⟨σ_13, eσ_13, h⟩ := kf_lte h
    refine wa_iast (kf_wtf hty 52 49 k_v0 (by decide) rfl) g_12 E d_X12_polished_56 eσ_13 ?_
    obtain ⟨v2_14, ev2_14, h⟩ := kf_lte h
    refine wa_iinc (lv' := [(2, .int v2_14), (0, .ref (kf_ad G v0)), (1, .int v1)]) v2_14 2 rfl (kf_inc ic_1 ev2_14) (by decide) rfl E d_X12_polished_57 ?_
    refine wa_goto E d_X12_polished_60 ?_
    refine wa_sub [1, 2, 0] rfl ?_
    exact hrec2 v0 v1 v2_14 k_v0 σ_13 h
theorem b_X12_polished_2 {X : kf_X} {G : kf_G} {q : kf_St} (E : kf_ok X G cX12_polished RX12 3 none (2)) (hty : kf_wt G) : ∀ (N : Nat) (v0 : Nat) (v1 : Int32) (v2 : Int32) (k_v0 : kf_kd G v0 = 13) (σ : kf_St) (_ : f_X12_polished_2 N v0 v1 v2 σ = some q), kf_WA X G 3 (kf_Q X G none q) 2 [(0, .ref (kf_ad G v0)), (1, .int v1), (2, .int v2)] [] σ
  | 0, _, _, _, _, _, h => by cases h
  | N + 1, v0, v1, v2, k_v0, σ, h => b_X12_polished_2_s _ E hty (b_X12_polished_2 E hty N) v0 v1 v2 k_v0 σ h
def f_X12_polished (v0 : Nat) (v1 : Int32) (σ : kf_St) : Option kf_St :=
  f_X12_polished_2 kf_F v0 v1 0 σ
set_option maxRecDepth 100000 in
set_option maxHeartbeats 4000000 in
theorem c_X12_polished {G : kf_G} (hty : kf_wt G) (v0 : Nat) (v1 : Int32) (k_v0 : kf_kd G v0 = 13) (σ : kf_St) {q : kf_St} (h : f_X12_polished v0 v1 σ = some q) : kf_Ct (2) yX12_polished cX12_polished 3 none G [.ref (kf_ad G v0), .int v1] σ none q := by
  refine kf_Ct.of hty.1 (lv := [(0, .ref (kf_ad G v0)), (1, .int v1)]) (by decide +kernel) rfl (Nat.le_of_ble_eq_true rfl) (fun X E => ?_)
  unfold f_X12_polished at h
  refine wa_iconst 0 ic_0 E d_X12_polished_0 ?_
  refine wa_istore_n (lv' := [(2, .int 0), (0, .ref (kf_ad G v0)), (1, .int v1)]) rfl (by decide) rfl E d_X12_polished_1 ?_
  refine wa_sub [1, 2, 0] rfl ?_
  exact b_X12_polished_2 E hty kf_F v0 v1 0 k_v0 σ h
/-! X12_door -/
theorem d_X12_door_0 : kf_dq cX12_door 0 1 1 (.aload_n 0) := ⟨by decide +kernel, rfl⟩
theorem d_X12_door_1 : kf_dq cX12_door 1 2 1 (.iload_n 1) := ⟨by decide +kernel, rfl⟩
theorem d_X12_door_2 : kf_dq cX12_door 2 5 3 (.invokevirtual 387) := ⟨by decide +kernel, rfl⟩
theorem d_X12_door_5 : kf_dj cX12_door 5 8 10 (.ifCond .ne) := ⟨5, by decide +kernel, rfl, by decide⟩
theorem d_X12_door_8 : kf_dq cX12_door 8 9 1 (.iconst (-1)) := ⟨by decide +kernel, rfl⟩
theorem d_X12_door_9 : kf_dq cX12_door 9 10 1 (.ireturn) := ⟨by decide +kernel, rfl⟩
theorem d_X12_door_10 : kf_dq cX12_door 10 11 1 (.aload_n 0) := ⟨by decide +kernel, rfl⟩
theorem d_X12_door_11 : kf_dq cX12_door 11 14 3 (.invokevirtual 323) := ⟨by decide +kernel, rfl⟩
theorem d_X12_door_14 : kf_dq cX12_door 14 15 1 (.iload_n 2) := ⟨by decide +kernel, rfl⟩
theorem d_X12_door_15 : decode cX12_door 15 = .ok (.tableswitch 116 0 9 #[53, 53, 53, 53, 64, 74, 84, 94, 104, 110], 53) := by decide +kernel
theorem d_X12_door_68 : kf_dq cX12_door 68 69 1 (.aload_n 0) := ⟨by decide +kernel, rfl⟩
theorem d_X12_door_69 : kf_dq cX12_door 69 72 3 (.getfield 122) := ⟨by decide +kernel, rfl⟩
theorem d_X12_door_72 : kf_dq cX12_door 72 73 1 (.iconst 4) := ⟨by decide +kernel, rfl⟩
theorem d_X12_door_73 : kf_dq cX12_door 73 74 1 (.iload_n 1) := ⟨by decide +kernel, rfl⟩
theorem d_X12_door_74 : kf_dq cX12_door 74 75 1 (.imul) := ⟨by decide +kernel, rfl⟩
theorem d_X12_door_75 : kf_dq cX12_door 75 76 1 (.iload_n 2) := ⟨by decide +kernel, rfl⟩
theorem d_X12_door_76 : kf_dq cX12_door 76 77 1 (.iadd) := ⟨by decide +kernel, rfl⟩
theorem d_X12_door_77 : kf_dq cX12_door 77 78 1 (.iaload) := ⟨by decide +kernel, rfl⟩
theorem d_X12_door_78 : kf_dq cX12_door 78 79 1 (.ireturn) := ⟨by decide +kernel, rfl⟩
theorem d_X12_door_79 : kf_dq cX12_door 79 80 1 (.aload_n 0) := ⟨by decide +kernel, rfl⟩
theorem d_X12_door_80 : kf_dq cX12_door 80 83 3 (.getfield 122) := ⟨by decide +kernel, rfl⟩
theorem d_X12_door_83 : kf_dq cX12_door 83 85 2 (.bipush 24) := ⟨by decide +kernel, rfl⟩
theorem d_X12_door_85 : kf_dq cX12_door 85 86 1 (.iload_n 1) := ⟨by decide +kernel, rfl⟩
theorem d_X12_door_86 : kf_dq cX12_door 86 87 1 (.iadd) := ⟨by decide +kernel, rfl⟩
theorem d_X12_door_87 : kf_dq cX12_door 87 88 1 (.iaload) := ⟨by decide +kernel, rfl⟩
theorem d_X12_door_88 : kf_dq cX12_door 88 89 1 (.ireturn) := ⟨by decide +kernel, rfl⟩
theorem d_X12_door_89 : kf_dq cX12_door 89 90 1 (.aload_n 0) := ⟨by decide +kernel, rfl⟩
theorem d_X12_door_90 : kf_dq cX12_door 90 93 3 (.getfield 122) := ⟨by decide +kernel, rfl⟩
theorem d_X12_door_93 : kf_dq cX12_door 93 95 2 (.bipush 30) := ⟨by decide +kernel, rfl⟩
theorem d_X12_door_95 : kf_dq cX12_door 95 96 1 (.iload_n 1) := ⟨by decide +kernel, rfl⟩
theorem d_X12_door_96 : kf_dq cX12_door 96 97 1 (.iadd) := ⟨by decide +kernel, rfl⟩
theorem d_X12_door_97 : kf_dq cX12_door 97 98 1 (.iaload) := ⟨by decide +kernel, rfl⟩
theorem d_X12_door_98 : kf_dq cX12_door 98 99 1 (.ireturn) := ⟨by decide +kernel, rfl⟩
theorem d_X12_door_99 : kf_dq cX12_door 99 100 1 (.aload_n 0) := ⟨by decide +kernel, rfl⟩
theorem d_X12_door_100 : kf_dq cX12_door 100 103 3 (.getfield 122) := ⟨by decide +kernel, rfl⟩
theorem d_X12_door_103 : kf_dq cX12_door 103 105 2 (.bipush 36) := ⟨by decide +kernel, rfl⟩
theorem d_X12_door_105 : kf_dq cX12_door 105 106 1 (.iload_n 1) := ⟨by decide +kernel, rfl⟩
theorem d_X12_door_106 : kf_dq cX12_door 106 107 1 (.iadd) := ⟨by decide +kernel, rfl⟩
theorem d_X12_door_107 : kf_dq cX12_door 107 108 1 (.iaload) := ⟨by decide +kernel, rfl⟩
theorem d_X12_door_108 : kf_dq cX12_door 108 109 1 (.ireturn) := ⟨by decide +kernel, rfl⟩
theorem d_X12_door_109 : kf_dq cX12_door 109 110 1 (.aload_n 0) := ⟨by decide +kernel, rfl⟩
theorem d_X12_door_110 : kf_dq cX12_door 110 113 3 (.getfield 122) := ⟨by decide +kernel, rfl⟩
theorem d_X12_door_113 : kf_dq cX12_door 113 115 2 (.bipush 42) := ⟨by decide +kernel, rfl⟩
theorem d_X12_door_115 : kf_dq cX12_door 115 116 1 (.iload_n 1) := ⟨by decide +kernel, rfl⟩
theorem d_X12_door_116 : kf_dq cX12_door 116 117 1 (.iadd) := ⟨by decide +kernel, rfl⟩
theorem d_X12_door_117 : kf_dq cX12_door 117 118 1 (.iaload) := ⟨by decide +kernel, rfl⟩
theorem d_X12_door_118 : kf_dq cX12_door 118 119 1 (.ireturn) := ⟨by decide +kernel, rfl⟩
theorem d_X12_door_119 : kf_dq cX12_door 119 120 1 (.aload_n 0) := ⟨by decide +kernel, rfl⟩
theorem d_X12_door_120 : kf_dq cX12_door 120 121 1 (.iload_n 1) := ⟨by decide +kernel, rfl⟩
theorem d_X12_door_121 : kf_dq cX12_door 121 124 3 (.invokevirtual 390) := ⟨by decide +kernel, rfl⟩
theorem d_X12_door_124 : kf_dq cX12_door 124 125 1 (.ireturn) := ⟨by decide +kernel, rfl⟩
theorem d_X12_door_125 : kf_dq cX12_door 125 126 1 (.aload_n 0) := ⟨by decide +kernel, rfl⟩
theorem d_X12_door_126 : kf_dq cX12_door 126 127 1 (.iload_n 1) := ⟨by decide +kernel, rfl⟩
theorem d_X12_door_127 : kf_dq cX12_door 127 130 3 (.invokevirtual 357) := ⟨by decide +kernel, rfl⟩
theorem d_X12_door_130 : kf_dq cX12_door 130 131 1 (.ireturn) := ⟨by decide +kernel, rfl⟩
theorem d_X12_door_131 : kf_dq cX12_door 131 132 1 (.iconst (-1)) := ⟨by decide +kernel, rfl⟩
theorem d_X12_door_132 : kf_dq cX12_door 132 133 1 (.ireturn) := ⟨by decide +kernel, rfl⟩
def f_X12_door_68 (v0 : Nat) (v1 : Int32) (v2 : Int32) (σ : kf_St) : Option (Int32 × kf_St) :=
  if kf_ix ((4 * v1) + v2) (kf_ln (kf_rf v0 52)) = true then
  some ((σ.1 (kf_rf v0 52) (Int32.toNatClampNeg ((4 * v1) + v2))), σ)
  else none
set_option maxRecDepth 100000 in
set_option maxHeartbeats 4000000 in
theorem b_X12_door_68 {X : kf_X} {G : kf_G} {q : (Int32 × kf_St)} (E : kf_ok X G cX12_door RX12 3 (some .int) (4)) (hty : kf_wt G) (v0 : Nat) (v1 : Int32) (v2 : Int32) (k_v0 : kf_kd G v0 = 13) (σ : kf_St) (h : f_X12_door_68 v0 v1 v2 σ = some q) : kf_WA X G 3 (kf_Q X G (some (.int q.1)) q.2) 68 [(0, .ref (kf_ad G v0)), (1, .int v1), (2, .int v2)] [] σ := by
  unfold f_X12_door_68 at h
  refine wa_aload_n 0 rfl E d_X12_door_68 ?_
  refine wa_getR fl_X12_122 k_v0 rfl E d_X12_door_69 ?_
  refine wa_iconst 4 ic_4 E d_X12_door_72 ?_
  refine wa_iload_n 1 rfl E d_X12_door_73 ?_
  refine wa_imul E d_X12_door_74 ?_
  refine wa_iload_n 2 rfl E d_X12_door_75 ?_
  refine wa_iadd E d_X12_door_76 ?_
  obtain ⟨g_1, h⟩ := kf_gd h
  refine wa_iald (kf_wtf hty 52 49 k_v0 (by decide) rfl) g_1 E d_X12_door_77 ?_
  cases h
  exact wa_iret E d_X12_door_78
def f_X12_door (v0 : Nat) (v1 : Int32) (v2 : Int32) (σ : kf_St) : Option (Int32 × kf_St) :=
  (f_X12_isDoor v0 v1 σ).bind fun q_1 =>
  if q_1.1 = 0 then
    some ((-1), q_1.2)
  else
    (f_X12_copies v0 q_1.2).bind fun q_3 =>
    if v2 = 0 then
      f_X12_door_68 v0 v1 v2 q_3
    else
      if v2 = 1 then
        f_X12_door_68 v0 v1 v2 q_3
      else
        if v2 = 2 then
          f_X12_door_68 v0 v1 v2 q_3
        else
          if v2 = 3 then
            f_X12_door_68 v0 v1 v2 q_3
          else
            if v2 = 4 then
              if kf_ix (24 + v1) (kf_ln (kf_rf v0 52)) = true then
              some ((q_3.1 (kf_rf v0 52) (Int32.toNatClampNeg (24 + v1))), q_3)
              else none
            else
              if v2 = 5 then
                if kf_ix (30 + v1) (kf_ln (kf_rf v0 52)) = true then
                some ((q_3.1 (kf_rf v0 52) (Int32.toNatClampNeg (30 + v1))), q_3)
                else none
              else
                if v2 = 6 then
                  if kf_ix (36 + v1) (kf_ln (kf_rf v0 52)) = true then
                  some ((q_3.1 (kf_rf v0 52) (Int32.toNatClampNeg (36 + v1))), q_3)
                  else none
                else
                  if v2 = 7 then
                    if kf_ix (42 + v1) (kf_ln (kf_rf v0 52)) = true then
                    some ((q_3.1 (kf_rf v0 52) (Int32.toNatClampNeg (42 + v1))), q_3)
                    else none
                  else
                    if v2 = 8 then
                      (f_X12_knownBy v0 v1 q_3).bind fun q_17 =>
                      some (q_17.1, q_17.2)
                    else
                      if v2 = 9 then
                        (f_X12_unlikeFirst v0 v1 q_3).bind fun q_19 =>
                        some (q_19.1, q_19.2)
                      else
                        some ((-1), q_3)
set_option maxRecDepth 100000 in
set_option maxHeartbeats 4000000 in
theorem c_X12_door {G : kf_G} (hty : kf_wt G) (v0 : Nat) (v1 : Int32) (v2 : Int32) (k_v0 : kf_kd G v0 = 13) (σ : kf_St) {q : (Int32 × kf_St)} (h : f_X12_door v0 v1 v2 σ = some q) : kf_Ct (4) yX12_door cX12_door 3 (some .int) G [.ref (kf_ad G v0), .int v1, .int v2] σ (some (.int q.1)) q.2 := by
  refine kf_Ct.of hty.1 (lv := [(0, .ref (kf_ad G v0)), (1, .int v1), (2, .int v2)]) (by decide +kernel) rfl (Nat.le_of_ble_eq_true rfl) (fun X E => ?_)
  unfold f_X12_door at h
  refine wa_aload_n 0 rfl E d_X12_door_0 ?_
  refine wa_iload_n 1 rfl E d_X12_door_1 ?_
  obtain ⟨q_1, hq_1, h⟩ := kf_bd h
  refine wa_callV (st2 := [.int q_1.1]) (c_X12_isDoor hty v0 v1 k_v0 σ hq_1) mv_X12_isDoor ml_X12_387 k_v0 rfl (Nat.le_of_ble_eq_true rfl) rfl (Nat.le_of_ble_eq_true rfl) E d_X12_door_2 rfl ?_
  refine wa_if_ne E d_X12_door_5 (fun c_2 => ?_) (fun c_2 => ?_)
  · replace h := kf_iff c_2 h
    refine wa_aload_n 0 rfl E d_X12_door_10 ?_
    obtain ⟨q_3, hq_3, h⟩ := kf_bd h
    refine wa_callV (st2 := []) (c_X12_copies hty v0 k_v0 q_1.2 hq_3) mv_X12_copies ml_X12_323 k_v0 rfl (Nat.le_of_ble_eq_true rfl) rfl (Nat.le_of_ble_eq_true rfl) E d_X12_door_11 rfl ?_
    refine wa_iload_n 2 rfl E d_X12_door_14 ?_
    by_cases c_4 : v2 = 0
    · replace h := kf_ift c_4 h
      refine wa_tabIn (off := 53) (tgt := 68) (by rw [c_4]; decide) (by rw [c_4]; decide) (by rw [c_4]; rfl) (by decide) E d_X12_door_15 ?_
      exact b_X12_door_68 E hty v0 v1 v2 k_v0 q_3 h
    · replace h := kf_iff c_4 h
      by_cases c_5 : v2 = 1
      · replace h := kf_ift c_5 h
        refine wa_tabIn (off := 53) (tgt := 68) (by rw [c_5]; decide) (by rw [c_5]; decide) (by rw [c_5]; rfl) (by decide) E d_X12_door_15 ?_
        exact b_X12_door_68 E hty v0 v1 v2 k_v0 q_3 h
      · replace h := kf_iff c_5 h
        by_cases c_6 : v2 = 2
        · replace h := kf_ift c_6 h
          refine wa_tabIn (off := 53) (tgt := 68) (by rw [c_6]; decide) (by rw [c_6]; decide) (by rw [c_6]; rfl) (by decide) E d_X12_door_15 ?_
          exact b_X12_door_68 E hty v0 v1 v2 k_v0 q_3 h
        · replace h := kf_iff c_6 h
          by_cases c_7 : v2 = 3
          · replace h := kf_ift c_7 h
            refine wa_tabIn (off := 53) (tgt := 68) (by rw [c_7]; decide) (by rw [c_7]; decide) (by rw [c_7]; rfl) (by decide) E d_X12_door_15 ?_
            exact b_X12_door_68 E hty v0 v1 v2 k_v0 q_3 h
          · replace h := kf_iff c_7 h
            by_cases c_8 : v2 = 4
            · replace h := kf_ift c_8 h
              refine wa_tabIn (off := 64) (tgt := 79) (by rw [c_8]; decide) (by rw [c_8]; decide) (by rw [c_8]; rfl) (by decide) E d_X12_door_15 ?_
              refine wa_aload_n 0 rfl E d_X12_door_79 ?_
              refine wa_getR fl_X12_122 k_v0 rfl E d_X12_door_80 ?_
              refine wa_bipush 24 bp_24 E d_X12_door_83 ?_
              refine wa_iload_n 1 rfl E d_X12_door_85 ?_
              refine wa_iadd E d_X12_door_86 ?_
              obtain ⟨g_9, h⟩ := kf_gd h
              refine wa_iald (kf_wtf hty 52 49 k_v0 (by decide) rfl) g_9 E d_X12_door_87 ?_
              cases h
              exact wa_iret E d_X12_door_88
            · replace h := kf_iff c_8 h
              by_cases c_10 : v2 = 5
              · replace h := kf_ift c_10 h
                refine wa_tabIn (off := 74) (tgt := 89) (by rw [c_10]; decide) (by rw [c_10]; decide) (by rw [c_10]; rfl) (by decide) E d_X12_door_15 ?_
                refine wa_aload_n 0 rfl E d_X12_door_89 ?_
                refine wa_getR fl_X12_122 k_v0 rfl E d_X12_door_90 ?_
                refine wa_bipush 30 bp_30 E d_X12_door_93 ?_
                refine wa_iload_n 1 rfl E d_X12_door_95 ?_
                refine wa_iadd E d_X12_door_96 ?_
                obtain ⟨g_11, h⟩ := kf_gd h
                refine wa_iald (kf_wtf hty 52 49 k_v0 (by decide) rfl) g_11 E d_X12_door_97 ?_
                cases h
                exact wa_iret E d_X12_door_98
              · replace h := kf_iff c_10 h
                by_cases c_12 : v2 = 6
                · replace h := kf_ift c_12 h
                  refine wa_tabIn (off := 84) (tgt := 99) (by rw [c_12]; decide) (by rw [c_12]; decide) (by rw [c_12]; rfl) (by decide) E d_X12_door_15 ?_
                  refine wa_aload_n 0 rfl E d_X12_door_99 ?_
                  refine wa_getR fl_X12_122 k_v0 rfl E d_X12_door_100 ?_
                  refine wa_bipush 36 bp_36 E d_X12_door_103 ?_
                  refine wa_iload_n 1 rfl E d_X12_door_105 ?_
                  refine wa_iadd E d_X12_door_106 ?_
                  obtain ⟨g_13, h⟩ := kf_gd h
                  refine wa_iald (kf_wtf hty 52 49 k_v0 (by decide) rfl) g_13 E d_X12_door_107 ?_
                  cases h
                  exact wa_iret E d_X12_door_108
                · replace h := kf_iff c_12 h
                  by_cases c_14 : v2 = 7
                  · replace h := kf_ift c_14 h
                    refine wa_tabIn (off := 94) (tgt := 109) (by rw [c_14]; decide) (by rw [c_14]; decide) (by rw [c_14]; rfl) (by decide) E d_X12_door_15 ?_
                    refine wa_aload_n 0 rfl E d_X12_door_109 ?_
                    refine wa_getR fl_X12_122 k_v0 rfl E d_X12_door_110 ?_
                    refine wa_bipush 42 bp_42 E d_X12_door_113 ?_
                    refine wa_iload_n 1 rfl E d_X12_door_115 ?_
                    refine wa_iadd E d_X12_door_116 ?_
                    obtain ⟨g_15, h⟩ := kf_gd h
                    refine wa_iald (kf_wtf hty 52 49 k_v0 (by decide) rfl) g_15 E d_X12_door_117 ?_
                    cases h
                    exact wa_iret E d_X12_door_118
                  · replace h := kf_iff c_14 h
                    by_cases c_16 : v2 = 8
                    · replace h := kf_ift c_16 h
                      refine wa_tabIn (off := 104) (tgt := 119) (by rw [c_16]; decide) (by rw [c_16]; decide) (by rw [c_16]; rfl) (by decide) E d_X12_door_15 ?_
                      refine wa_aload_n 0 rfl E d_X12_door_119 ?_
                      refine wa_iload_n 1 rfl E d_X12_door_120 ?_
                      obtain ⟨q_17, hq_17, h⟩ := kf_bd h
                      refine wa_callV (st2 := [.int q_17.1]) (c_X12_knownBy hty v0 v1 k_v0 q_3 hq_17) mv_X12_knownBy ml_X12_390 k_v0 rfl (Nat.le_of_ble_eq_true rfl) rfl (Nat.le_of_ble_eq_true rfl) E d_X12_door_121 rfl ?_
                      cases h
                      exact wa_iret E d_X12_door_124
                    · replace h := kf_iff c_16 h
                      by_cases c_18 : v2 = 9
                      · replace h := kf_ift c_18 h
                        refine wa_tabIn (off := 110) (tgt := 125) (by rw [c_18]; decide) (by rw [c_18]; decide) (by rw [c_18]; rfl) (by decide) E d_X12_door_15 ?_
                        refine wa_aload_n 0 rfl E d_X12_door_125 ?_
                        refine wa_iload_n 1 rfl E d_X12_door_126 ?_
                        obtain ⟨q_19, hq_19, h⟩ := kf_bd h
                        refine wa_callV (st2 := [.int q_19.1]) (c_X12_unlikeFirst hty v0 v1 k_v0 q_3 hq_19) mv_X12_unlikeFirst ml_X12_357 k_v0 rfl (Nat.le_of_ble_eq_true rfl) rfl (Nat.le_of_ble_eq_true rfl) E d_X12_door_127 rfl ?_
                        cases h
                        exact wa_iret E d_X12_door_130
                      · replace h := kf_iff c_18 h
                        refine wa_tabOut (tgt := 131) (kf_out [0, 1, 2, 3, 4, 5, 6, 7, 8, 9] (by decide +kernel) (List.forall_mem_cons.mpr ⟨c_4, List.forall_mem_cons.mpr ⟨c_5, List.forall_mem_cons.mpr ⟨c_6, List.forall_mem_cons.mpr ⟨c_7, List.forall_mem_cons.mpr ⟨c_8, List.forall_mem_cons.mpr ⟨c_10, List.forall_mem_cons.mpr ⟨c_12, List.forall_mem_cons.mpr ⟨c_14, List.forall_mem_cons.mpr ⟨c_16, List.forall_mem_cons.mpr ⟨c_18, fun _ h => absurd h List.not_mem_nil⟩⟩⟩⟩⟩⟩⟩⟩⟩⟩)) (by decide) E d_X12_door_15 ?_
                        refine wa_iconst (-1) ic_m1 E d_X12_door_131 ?_
                        cases h
                        exact wa_iret E d_X12_door_132
  · replace h := kf_ift c_2 h
    refine wa_iconst (-1) ic_m1 E d_X12_door_8 ?_
    cases h
    exact wa_iret E d_X12_door_9
/-! X12_caller -/
theorem d_X12_caller_0 : kf_dq cX12_caller 0 1 1 (.aload_n 0) := ⟨by decide +kernel, rfl⟩
theorem d_X12_caller_1 : kf_dq cX12_caller 1 2 1 (.iload_n 1) := ⟨by decide +kernel, rfl⟩
theorem d_X12_caller_2 : kf_dq cX12_caller 2 5 3 (.invokevirtual 393) := ⟨by decide +kernel, rfl⟩
theorem d_X12_caller_5 : kf_dj cX12_caller 5 8 17 (.ifCond .eq) := ⟨12, by decide +kernel, rfl, by decide⟩
theorem d_X12_caller_8 : kf_dq cX12_caller 8 9 1 (.iload_n 2) := ⟨by decide +kernel, rfl⟩
theorem d_X12_caller_9 : kf_dq cX12_caller 9 10 1 (.iconst 0) := ⟨by decide +kernel, rfl⟩
theorem d_X12_caller_10 : kf_dq cX12_caller 10 11 1 (.iconst 5) := ⟨by decide +kernel, rfl⟩
theorem d_X12_caller_11 : kf_dq cX12_caller 11 14 3 (.invokestatic 313) := ⟨by decide +kernel, rfl⟩
theorem d_X12_caller_14 : kf_dj cX12_caller 14 17 19 (.ifCond .ne) := ⟨5, by decide +kernel, rfl, by decide⟩
theorem d_X12_caller_17 : kf_dq cX12_caller 17 18 1 (.iconst (-1)) := ⟨by decide +kernel, rfl⟩
theorem d_X12_caller_18 : kf_dq cX12_caller 18 19 1 (.ireturn) := ⟨by decide +kernel, rfl⟩
theorem d_X12_caller_19 : kf_dq cX12_caller 19 20 1 (.aload_n 0) := ⟨by decide +kernel, rfl⟩
theorem d_X12_caller_20 : kf_dq cX12_caller 20 23 3 (.invokevirtual 323) := ⟨by decide +kernel, rfl⟩
theorem d_X12_caller_23 : kf_dq cX12_caller 23 24 1 (.iload_n 2) := ⟨by decide +kernel, rfl⟩
theorem d_X12_caller_24 : kf_dq cX12_caller 24 25 1 (.iconst 4) := ⟨by decide +kernel, rfl⟩
theorem d_X12_caller_25 : kf_dj cX12_caller 25 28 35 (.if_icmp .ge) := ⟨10, by decide +kernel, rfl, by decide⟩
theorem d_X12_caller_28 : kf_dq cX12_caller 28 29 1 (.aload_n 0) := ⟨by decide +kernel, rfl⟩
theorem d_X12_caller_29 : kf_dq cX12_caller 29 30 1 (.iload_n 1) := ⟨by decide +kernel, rfl⟩
theorem d_X12_caller_30 : kf_dq cX12_caller 30 31 1 (.iload_n 2) := ⟨by decide +kernel, rfl⟩
theorem d_X12_caller_31 : kf_dq cX12_caller 31 34 3 (.invokevirtual 333) := ⟨by decide +kernel, rfl⟩
theorem d_X12_caller_34 : kf_dq cX12_caller 34 35 1 (.ireturn) := ⟨by decide +kernel, rfl⟩
theorem d_X12_caller_35 : kf_dq cX12_caller 35 36 1 (.iload_n 2) := ⟨by decide +kernel, rfl⟩
theorem d_X12_caller_36 : kf_dq cX12_caller 36 37 1 (.iconst 4) := ⟨by decide +kernel, rfl⟩
theorem d_X12_caller_37 : kf_dj cX12_caller 37 40 50 (.if_icmp .ne) := ⟨13, by decide +kernel, rfl, by decide⟩
theorem d_X12_caller_40 : kf_dq cX12_caller 40 41 1 (.aload_n 0) := ⟨by decide +kernel, rfl⟩
theorem d_X12_caller_41 : kf_dq cX12_caller 41 44 3 (.getfield 122) := ⟨by decide +kernel, rfl⟩
theorem d_X12_caller_44 : kf_dq cX12_caller 44 46 2 (.bipush 64) := ⟨by decide +kernel, rfl⟩
theorem d_X12_caller_46 : kf_dq cX12_caller 46 47 1 (.iload_n 1) := ⟨by decide +kernel, rfl⟩
theorem d_X12_caller_47 : kf_dq cX12_caller 47 48 1 (.iadd) := ⟨by decide +kernel, rfl⟩
theorem d_X12_caller_48 : kf_dq cX12_caller 48 49 1 (.iaload) := ⟨by decide +kernel, rfl⟩
theorem d_X12_caller_49 : kf_dq cX12_caller 49 50 1 (.ireturn) := ⟨by decide +kernel, rfl⟩
theorem d_X12_caller_50 : kf_dq cX12_caller 50 51 1 (.iconst 0) := ⟨by decide +kernel, rfl⟩
theorem d_X12_caller_51 : kf_dq cX12_caller 51 52 1 (.istore_n 3) := ⟨by decide +kernel, rfl⟩
theorem d_X12_caller_52 : kf_dq cX12_caller 52 53 1 (.iconst 0) := ⟨by decide +kernel, rfl⟩
theorem d_X12_caller_53 : kf_dq cX12_caller 53 55 2 (.istore 4) := ⟨by decide +kernel, rfl⟩
theorem d_X12_caller_55 : kf_dq cX12_caller 55 57 2 (.iload 4) := ⟨by decide +kernel, rfl⟩
theorem d_X12_caller_57 : kf_dq cX12_caller 57 58 1 (.aload_n 0) := ⟨by decide +kernel, rfl⟩
theorem d_X12_caller_58 : kf_dq cX12_caller 58 61 3 (.getfield 46) := ⟨by decide +kernel, rfl⟩
theorem d_X12_caller_61 : kf_dq cX12_caller 61 62 1 (.aload_n 0) := ⟨by decide +kernel, rfl⟩
theorem d_X12_caller_62 : kf_dq cX12_caller 62 65 3 (.getfield 233) := ⟨by decide +kernel, rfl⟩
theorem d_X12_caller_65 : kf_dq cX12_caller 65 66 1 (.iaload) := ⟨by decide +kernel, rfl⟩
theorem d_X12_caller_66 : kf_dj cX12_caller 66 69 92 (.if_icmp .ge) := ⟨26, by decide +kernel, rfl, by decide⟩
theorem d_X12_caller_69 : kf_dq cX12_caller 69 70 1 (.aload_n 0) := ⟨by decide +kernel, rfl⟩
theorem d_X12_caller_70 : kf_dq cX12_caller 70 72 2 (.iload 4) := ⟨by decide +kernel, rfl⟩
theorem d_X12_caller_72 : kf_dq cX12_caller 72 75 3 (.invokevirtual 390) := ⟨by decide +kernel, rfl⟩
theorem d_X12_caller_75 : kf_dq cX12_caller 75 76 1 (.iload_n 1) := ⟨by decide +kernel, rfl⟩
theorem d_X12_caller_76 : kf_dj cX12_caller 76 79 86 (.if_icmp .ne) := ⟨10, by decide +kernel, rfl, by decide⟩
theorem d_X12_caller_79 : kf_dq cX12_caller 79 80 1 (.iload_n 3) := ⟨by decide +kernel, rfl⟩
theorem d_X12_caller_80 : kf_dq cX12_caller 80 81 1 (.iconst 1) := ⟨by decide +kernel, rfl⟩
theorem d_X12_caller_81 : kf_dq cX12_caller 81 83 2 (.iload 4) := ⟨by decide +kernel, rfl⟩
theorem d_X12_caller_83 : kf_dq cX12_caller 83 84 1 (.ishl) := ⟨by decide +kernel, rfl⟩
theorem d_X12_caller_84 : kf_dq cX12_caller 84 85 1 (.ior) := ⟨by decide +kernel, rfl⟩
theorem d_X12_caller_85 : kf_dq cX12_caller 85 86 1 (.istore_n 3) := ⟨by decide +kernel, rfl⟩
theorem d_X12_caller_86 : kf_dq cX12_caller 86 89 3 (.iinc 4 1) := ⟨by decide +kernel, rfl⟩
theorem d_X12_caller_89 : kf_dj cX12_caller 89 92 55 .goto := ⟨(-34), by decide +kernel, rfl, by decide⟩
theorem d_X12_caller_92 : kf_dq cX12_caller 92 93 1 (.iload_n 3) := ⟨by decide +kernel, rfl⟩
theorem d_X12_caller_93 : kf_dq cX12_caller 93 94 1 (.ireturn) := ⟨by decide +kernel, rfl⟩
def f_X12_caller_86 (rec55 : Nat → Int32 → Int32 → Int32 → kf_St → Option (Int32 × kf_St)) (v0 : Nat) (v1 : Int32) (v3 : Int32) (v4 : Int32) (σ : kf_St) : Option (Int32 × kf_St) :=
  kf_lt (v4 + 1) fun v4_1 =>
  rec55 v0 v1 v3 v4_1 σ
set_option maxRecDepth 100000 in
set_option maxHeartbeats 4000000 in
theorem b_X12_caller_86 {X : kf_X} {G : kf_G} {rec55 : Nat → Int32 → Int32 → Int32 → kf_St → Option (Int32 × kf_St)} {q : (Int32 × kf_St)} (E : kf_ok X G cX12_caller RX12 5 (some .int) (4)) (hty : kf_wt G) (hrec55 : ∀ (v0 : Nat) (v1 : Int32) (v3 : Int32) (v4 : Int32) (k_v0 : kf_kd G v0 = 13) (σ : kf_St), rec55 v0 v1 v3 v4 σ = some q → kf_WA X G 5 (kf_Q X G (some (.int q.1)) q.2) 55 [(0, .ref (kf_ad G v0)), (1, .int v1), (3, .int v3), (4, .int v4)] [] σ) (v0 : Nat) (v1 : Int32) (v3 : Int32) (v4 : Int32) (k_v0 : kf_kd G v0 = 13) (σ : kf_St) (h : f_X12_caller_86 rec55 v0 v1 v3 v4 σ = some q) : kf_WA X G 5 (kf_Q X G (some (.int q.1)) q.2) 86 [(0, .ref (kf_ad G v0)), (1, .int v1), (3, .int v3), (4, .int v4)] [] σ := by
  unfold f_X12_caller_86 at h
  obtain ⟨v4_1, ev4_1, h⟩ := kf_lte h
  refine wa_iinc (lv' := [(4, .int v4_1), (0, .ref (kf_ad G v0)), (1, .int v1), (3, .int v3)]) v4_1 3 rfl (kf_inc ic_1 ev4_1) (by decide) rfl E d_X12_caller_86 ?_
  refine wa_goto E d_X12_caller_89 ?_
  refine wa_sub [1, 2, 3, 0] rfl ?_
  exact hrec55 v0 v1 v3 v4_1 k_v0 σ h
def f_X12_caller_55_s (rec55 : Nat → Int32 → Int32 → Int32 → kf_St → Option (Int32 × kf_St)) (v0 : Nat) (v1 : Int32) (v3 : Int32) (v4 : Int32) (σ : kf_St) : Option (Int32 × kf_St) :=
  if kf_ix (σ.1 v0 18) (kf_ln (kf_rf v0 23)) = true then
  if (σ.1 (kf_rf v0 23) (Int32.toNatClampNeg (σ.1 v0 18))) ≤ v4 then
    some (v3, σ)
  else
    (f_X12_knownBy v0 v4 σ).bind fun q_3 =>
    if q_3.1 = v1 then
      kf_lt ((v3 ||| ((1 : Int32) <<< (v4 &&& 31)))) fun v3_5 =>
      f_X12_caller_86 rec55 v0 v1 v3_5 v4 q_3.2
    else
      f_X12_caller_86 rec55 v0 v1 v3 v4 q_3.2
  else none
def f_X12_caller_55 : Nat → Nat → Int32 → Int32 → Int32 → kf_St → Option (Int32 × kf_St)
  | 0, _, _, _, _, _ => none
  | n + 1, v0, v1, v3, v4, σ => f_X12_caller_55_s (f_X12_caller_55 n) v0 v1 v3 v4 σ
set_option maxRecDepth 100000 in
set_option maxHeartbeats 4000000 in
theorem b_X12_caller_55_s {X : kf_X} {G : kf_G} (rec55 : Nat → Int32 → Int32 → Int32 → kf_St → Option (Int32 × kf_St)) {q : (Int32 × kf_St)} (E : kf_ok X G cX12_caller RX12 5 (some .int) (4)) (hty : kf_wt G) (hrec55 : ∀ (v0 : Nat) (v1 : Int32) (v3 : Int32) (v4 : Int32) (k_v0 : kf_kd G v0 = 13) (σ : kf_St), rec55 v0 v1 v3 v4 σ = some q → kf_WA X G 5 (kf_Q X G (some (.int q.1)) q.2) 55 [(0, .ref (kf_ad G v0)), (1, .int v1), (3, .int v3), (4, .int v4)] [] σ) (v0 : Nat) (v1 : Int32) (v3 : Int32) (v4 : Int32) (k_v0 : kf_kd G v0 = 13) (σ : kf_St) (h : f_X12_caller_55_s rec55 v0 v1 v3 v4 σ = some q) : kf_WA X G 5 (kf_Q X G (some (.int q.1)) q.2) 55 [(0, .ref (kf_ad G v0)), (1, .int v1), (3, .int v3), (4, .int v4)] [] σ := by
  unfold f_X12_caller_55_s at h
  refine wa_iload 3 rfl E d_X12_caller_55 ?_
  refine wa_aload_n 0 rfl E d_X12_caller_57 ?_
  refine wa_getR fl_X12_46 k_v0 rfl E d_X12_caller_58 ?_
  refine wa_aload_n 0 rfl E d_X12_caller_61 ?_
  refine wa_getI fl_X12_233 k_v0 rfl E d_X12_caller_62 ?_
  obtain ⟨g_1, h⟩ := kf_gd h
  refine wa_iald (kf_wtf hty 23 49 k_v0 (by decide) rfl) g_1 E d_X12_caller_65 ?_
  refine wa_icmp_ge E d_X12_caller_66 (fun c_2 => ?_) (fun c_2 => ?_)
  · replace h := kf_ift c_2 h
    refine wa_iload_n 2 rfl E d_X12_caller_92 ?_
    cases h
    exact wa_iret E d_X12_caller_93
  · replace h := kf_iff c_2 h
    refine wa_aload_n 0 rfl E d_X12_caller_69 ?_
    refine wa_iload 3 rfl E d_X12_caller_70 ?_
    obtain ⟨q_3, hq_3, h⟩ := kf_bd h
    refine wa_callV (st2 := [.int q_3.1]) (c_X12_knownBy hty v0 v4 k_v0 σ hq_3) mv_X12_knownBy ml_X12_390 k_v0 rfl (Nat.le_of_ble_eq_true rfl) rfl (Nat.le_of_ble_eq_true rfl) E d_X12_caller_72 rfl ?_
    refine wa_iload_n 1 rfl E d_X12_caller_75 ?_
    refine wa_icmp_ne E d_X12_caller_76 (fun c_4 => ?_) (fun c_4 => ?_)
    · replace h := kf_iff c_4 h
      exact b_X12_caller_86 E hty hrec55 v0 v1 v3 v4 k_v0 q_3.2 h
    · replace h := kf_ift c_4 h
      refine wa_iload_n 2 rfl E d_X12_caller_79 ?_
      refine wa_iconst 1 ic_1 E d_X12_caller_80 ?_
      refine wa_iload 3 rfl E d_X12_caller_81 ?_
      refine wa_ishl E d_X12_caller_83 ?_
      refine wa_ior E d_X12_caller_84 ?_
      obtain ⟨v3_5, ev3_5, h⟩ := kf_lte h
      refine wa_topi ev3_5 ?_
      refine wa_istore_n (lv' := [(3, .int v3_5), (0, .ref (kf_ad G v0)), (1, .int v1), (4, .int v4)]) rfl (by decide) rfl E d_X12_caller_85 ?_
      refine wa_sub [1, 2, 0, 3] rfl ?_
      exact b_X12_caller_86 E hty hrec55 v0 v1 v3_5 v4 k_v0 q_3.2 h
theorem b_X12_caller_55 {X : kf_X} {G : kf_G} {q : (Int32 × kf_St)} (E : kf_ok X G cX12_caller RX12 5 (some .int) (4)) (hty : kf_wt G) : ∀ (N : Nat) (v0 : Nat) (v1 : Int32) (v3 : Int32) (v4 : Int32) (k_v0 : kf_kd G v0 = 13) (σ : kf_St) (_ : f_X12_caller_55 N v0 v1 v3 v4 σ = some q), kf_WA X G 5 (kf_Q X G (some (.int q.1)) q.2) 55 [(0, .ref (kf_ad G v0)), (1, .int v1), (3, .int v3), (4, .int v4)] [] σ
  | 0, _, _, _, _, _, _, h => by cases h
  | N + 1, v0, v1, v3, v4, k_v0, σ, h => b_X12_caller_55_s _ E hty (b_X12_caller_55 E hty N) v0 v1 v3 v4 k_v0 σ h
def f_X12_caller (v0 : Nat) (v1 : Int32) (v2 : Int32) (σ : kf_St) : Option (Int32 × kf_St) :=
  (f_X12_isCaller v0 v1 σ).bind fun q_1 =>
  if q_1.1 = 0 then
    some ((-1), q_1.2)
  else
    (f_X12_in v2 0 5 q_1.2).bind fun q_3 =>
    if q_3.1 = 0 then
      some ((-1), q_3.2)
    else
      (f_X12_copies v0 q_3.2).bind fun q_5 =>
      if 4 ≤ v2 then
        if v2 = 4 then
          if kf_ix (64 + v1) (kf_ln (kf_rf v0 52)) = true then
          some ((q_5.1 (kf_rf v0 52) (Int32.toNatClampNeg (64 + v1))), q_5)
          else none
        else
          f_X12_caller_55 kf_F v0 v1 0 0 q_5
      else
        (f_X12_facePart v0 v1 v2 q_5).bind fun q_9 =>
        some (q_9.1, q_9.2)
set_option maxRecDepth 100000 in
set_option maxHeartbeats 4000000 in
theorem c_X12_caller {G : kf_G} (hty : kf_wt G) (v0 : Nat) (v1 : Int32) (v2 : Int32) (k_v0 : kf_kd G v0 = 13) (σ : kf_St) {q : (Int32 × kf_St)} (h : f_X12_caller v0 v1 v2 σ = some q) : kf_Ct (4) yX12_caller cX12_caller 5 (some .int) G [.ref (kf_ad G v0), .int v1, .int v2] σ (some (.int q.1)) q.2 := by
  refine kf_Ct.of hty.1 (lv := [(0, .ref (kf_ad G v0)), (1, .int v1), (2, .int v2)]) (by decide +kernel) rfl (Nat.le_of_ble_eq_true rfl) (fun X E => ?_)
  unfold f_X12_caller at h
  refine wa_aload_n 0 rfl E d_X12_caller_0 ?_
  refine wa_iload_n 1 rfl E d_X12_caller_1 ?_
  obtain ⟨q_1, hq_1, h⟩ := kf_bd h
  refine wa_callV (st2 := [.int q_1.1]) (c_X12_isCaller hty v0 v1 k_v0 σ hq_1) mv_X12_isCaller ml_X12_393 k_v0 rfl (Nat.le_of_ble_eq_true rfl) rfl (Nat.le_of_ble_eq_true rfl) E d_X12_caller_2 rfl ?_
  refine wa_if_eq E d_X12_caller_5 (fun c_2 => ?_) (fun c_2 => ?_)
  · replace h := kf_ift c_2 h
    refine wa_iconst (-1) ic_m1 E d_X12_caller_17 ?_
    cases h
    exact wa_iret E d_X12_caller_18
  · replace h := kf_iff c_2 h
    refine wa_iload_n 2 rfl E d_X12_caller_8 ?_
    refine wa_iconst 0 ic_0 E d_X12_caller_9 ?_
    refine wa_iconst 5 ic_5 E d_X12_caller_10 ?_
    obtain ⟨q_3, hq_3, h⟩ := kf_bd h
    refine wa_callS (st2 := [.int q_3.1]) (c_X12_in hty v2 0 5 q_1.2 hq_3) mt_X12_in ml_X12_313 rfl (Nat.le_of_ble_eq_true rfl) rfl (Nat.le_of_ble_eq_true rfl) E d_X12_caller_11 rfl ?_
    refine wa_if_ne E d_X12_caller_14 (fun c_4 => ?_) (fun c_4 => ?_)
    · replace h := kf_iff c_4 h
      refine wa_aload_n 0 rfl E d_X12_caller_19 ?_
      obtain ⟨q_5, hq_5, h⟩ := kf_bd h
      refine wa_callV (st2 := []) (c_X12_copies hty v0 k_v0 q_3.2 hq_5) mv_X12_copies ml_X12_323 k_v0 rfl (Nat.le_of_ble_eq_true rfl) rfl (Nat.le_of_ble_eq_true rfl) E d_X12_caller_20 rfl ?_
      refine wa_iload_n 2 rfl E d_X12_caller_23 ?_
      refine wa_iconst 4 ic_4 E d_X12_caller_24 ?_
      refine wa_icmp_ge E d_X12_caller_25 (fun c_6 => ?_) (fun c_6 => ?_)
      · replace h := kf_ift c_6 h
        refine wa_iload_n 2 rfl E d_X12_caller_35 ?_
        refine wa_iconst 4 ic_4 E d_X12_caller_36 ?_
        refine wa_icmp_ne E d_X12_caller_37 (fun c_7 => ?_) (fun c_7 => ?_)
        · replace h := kf_iff c_7 h
          refine wa_iconst 0 ic_0 E d_X12_caller_50 ?_
          refine wa_istore_n (lv' := [(3, .int 0), (0, .ref (kf_ad G v0)), (1, .int v1), (2, .int v2)]) rfl (by decide) rfl E d_X12_caller_51 ?_
          refine wa_iconst 0 ic_0 E d_X12_caller_52 ?_
          refine wa_istore (lv' := [(4, .int 0), (3, .int 0), (0, .ref (kf_ad G v0)), (1, .int v1), (2, .int v2)]) (by decide) rfl E d_X12_caller_53 ?_
          refine wa_sub [2, 3, 1, 0] rfl ?_
          exact b_X12_caller_55 E hty kf_F v0 v1 0 0 k_v0 q_5 h
        · replace h := kf_ift c_7 h
          refine wa_aload_n 0 rfl E d_X12_caller_40 ?_
          refine wa_getR fl_X12_122 k_v0 rfl E d_X12_caller_41 ?_
          refine wa_bipush 64 bp_64 E d_X12_caller_44 ?_
          refine wa_iload_n 1 rfl E d_X12_caller_46 ?_
          refine wa_iadd E d_X12_caller_47 ?_
          obtain ⟨g_8, h⟩ := kf_gd h
          refine wa_iald (kf_wtf hty 52 49 k_v0 (by decide) rfl) g_8 E d_X12_caller_48 ?_
          cases h
          exact wa_iret E d_X12_caller_49
      · replace h := kf_iff c_6 h
        refine wa_aload_n 0 rfl E d_X12_caller_28 ?_
        refine wa_iload_n 1 rfl E d_X12_caller_29 ?_
        refine wa_iload_n 2 rfl E d_X12_caller_30 ?_
        obtain ⟨q_9, hq_9, h⟩ := kf_bd h
        refine wa_callV (st2 := [.int q_9.1]) (c_X12_facePart hty v0 v1 v2 k_v0 q_5 hq_9) mv_X12_facePart ml_X12_333 k_v0 rfl (Nat.le_of_ble_eq_true rfl) rfl (Nat.le_of_ble_eq_true rfl) E d_X12_caller_31 rfl ?_
        cases h
        exact wa_iret E d_X12_caller_34
    · replace h := kf_ift c_4 h
      refine wa_iconst (-1) ic_m1 E d_X12_caller_17 ?_
      cases h
      exact wa_iret E d_X12_caller_18
/-! X12_round -/
theorem d_X12_round_0 : kf_dq cX12_round 0 1 1 (.aload_n 0) := ⟨by decide +kernel, rfl⟩
theorem d_X12_round_1 : kf_dq cX12_round 1 2 1 (.iload_n 1) := ⟨by decide +kernel, rfl⟩
theorem d_X12_round_2 : kf_dq cX12_round 2 5 3 (.invokevirtual 396) := ⟨by decide +kernel, rfl⟩
theorem d_X12_round_5 : kf_dj cX12_round 5 8 10 (.ifCond .ne) := ⟨5, by decide +kernel, rfl, by decide⟩
theorem d_X12_round_8 : kf_dq cX12_round 8 9 1 (.iconst (-1)) := ⟨by decide +kernel, rfl⟩
theorem d_X12_round_9 : kf_dq cX12_round 9 10 1 (.ireturn) := ⟨by decide +kernel, rfl⟩
theorem d_X12_round_10 : kf_dq cX12_round 10 12 2 (.bipush 10) := ⟨by decide +kernel, rfl⟩
theorem d_X12_round_12 : kf_dq cX12_round 12 13 1 (.aload_n 0) := ⟨by decide +kernel, rfl⟩
theorem d_X12_round_13 : kf_dq cX12_round 13 16 3 (.getfield 233) := ⟨by decide +kernel, rfl⟩
theorem d_X12_round_16 : kf_dq cX12_round 16 17 1 (.imul) := ⟨by decide +kernel, rfl⟩
theorem d_X12_round_17 : kf_dq cX12_round 17 18 1 (.iload_n 1) := ⟨by decide +kernel, rfl⟩
theorem d_X12_round_18 : kf_dq cX12_round 18 19 1 (.iadd) := ⟨by decide +kernel, rfl⟩
theorem d_X12_round_19 : kf_dq cX12_round 19 20 1 (.istore_n 3) := ⟨by decide +kernel, rfl⟩
theorem d_X12_round_20 : kf_dq cX12_round 20 21 1 (.iload_n 2) := ⟨by decide +kernel, rfl⟩
theorem d_X12_round_21 : decode cX12_round 21 = .ok (.tableswitch 98 0 5 #[39, 46, 53, 60, 67, 77], 39) := by decide +kernel
theorem d_X12_round_60 : kf_dq cX12_round 60 61 1 (.aload_n 0) := ⟨by decide +kernel, rfl⟩
theorem d_X12_round_61 : kf_dq cX12_round 61 64 3 (.getfield 61) := ⟨by decide +kernel, rfl⟩
theorem d_X12_round_64 : kf_dq cX12_round 64 65 1 (.iload_n 3) := ⟨by decide +kernel, rfl⟩
theorem d_X12_round_65 : kf_dq cX12_round 65 66 1 (.iaload) := ⟨by decide +kernel, rfl⟩
theorem d_X12_round_66 : kf_dq cX12_round 66 67 1 (.ireturn) := ⟨by decide +kernel, rfl⟩
theorem d_X12_round_67 : kf_dq cX12_round 67 68 1 (.aload_n 0) := ⟨by decide +kernel, rfl⟩
theorem d_X12_round_68 : kf_dq cX12_round 68 71 3 (.getfield 64) := ⟨by decide +kernel, rfl⟩
theorem d_X12_round_71 : kf_dq cX12_round 71 72 1 (.iload_n 3) := ⟨by decide +kernel, rfl⟩
theorem d_X12_round_72 : kf_dq cX12_round 72 73 1 (.iaload) := ⟨by decide +kernel, rfl⟩
theorem d_X12_round_73 : kf_dq cX12_round 73 74 1 (.ireturn) := ⟨by decide +kernel, rfl⟩
theorem d_X12_round_74 : kf_dq cX12_round 74 75 1 (.aload_n 0) := ⟨by decide +kernel, rfl⟩
theorem d_X12_round_75 : kf_dq cX12_round 75 78 3 (.getfield 67) := ⟨by decide +kernel, rfl⟩
theorem d_X12_round_78 : kf_dq cX12_round 78 79 1 (.iload_n 3) := ⟨by decide +kernel, rfl⟩
theorem d_X12_round_79 : kf_dq cX12_round 79 80 1 (.iaload) := ⟨by decide +kernel, rfl⟩
theorem d_X12_round_80 : kf_dq cX12_round 80 81 1 (.ireturn) := ⟨by decide +kernel, rfl⟩
theorem d_X12_round_81 : kf_dq cX12_round 81 82 1 (.aload_n 0) := ⟨by decide +kernel, rfl⟩
theorem d_X12_round_82 : kf_dq cX12_round 82 85 3 (.getfield 70) := ⟨by decide +kernel, rfl⟩
theorem d_X12_round_85 : kf_dq cX12_round 85 86 1 (.iload_n 3) := ⟨by decide +kernel, rfl⟩
theorem d_X12_round_86 : kf_dq cX12_round 86 87 1 (.iaload) := ⟨by decide +kernel, rfl⟩
theorem d_X12_round_87 : kf_dq cX12_round 87 88 1 (.ireturn) := ⟨by decide +kernel, rfl⟩
theorem d_X12_round_88 : kf_dq cX12_round 88 89 1 (.aload_n 0) := ⟨by decide +kernel, rfl⟩
theorem d_X12_round_89 : kf_dq cX12_round 89 92 3 (.getfield 119) := ⟨by decide +kernel, rfl⟩
theorem d_X12_round_92 : kf_dq cX12_round 92 94 2 (.bipush 54) := ⟨by decide +kernel, rfl⟩
theorem d_X12_round_94 : kf_dq cX12_round 94 95 1 (.iload_n 1) := ⟨by decide +kernel, rfl⟩
theorem d_X12_round_95 : kf_dq cX12_round 95 96 1 (.iadd) := ⟨by decide +kernel, rfl⟩
theorem d_X12_round_96 : kf_dq cX12_round 96 97 1 (.iaload) := ⟨by decide +kernel, rfl⟩
theorem d_X12_round_97 : kf_dq cX12_round 97 98 1 (.ireturn) := ⟨by decide +kernel, rfl⟩
theorem d_X12_round_98 : kf_dq cX12_round 98 99 1 (.aload_n 0) := ⟨by decide +kernel, rfl⟩
theorem d_X12_round_99 : kf_dq cX12_round 99 100 1 (.iload_n 1) := ⟨by decide +kernel, rfl⟩
theorem d_X12_round_100 : kf_dq cX12_round 100 101 1 (.aload_n 0) := ⟨by decide +kernel, rfl⟩
theorem d_X12_round_101 : kf_dq cX12_round 101 104 3 (.getfield 119) := ⟨by decide +kernel, rfl⟩
theorem d_X12_round_104 : kf_dq cX12_round 104 106 2 (.bipush 69) := ⟨by decide +kernel, rfl⟩
theorem d_X12_round_106 : kf_dq cX12_round 106 107 1 (.iaload) := ⟨by decide +kernel, rfl⟩
theorem d_X12_round_107 : kf_dq cX12_round 107 110 3 (.invokevirtual 370) := ⟨by decide +kernel, rfl⟩
theorem d_X12_round_110 : kf_dj cX12_round 110 113 117 (.ifCond .eq) := ⟨7, by decide +kernel, rfl, by decide⟩
theorem d_X12_round_113 : kf_dq cX12_round 113 114 1 (.iconst 1) := ⟨by decide +kernel, rfl⟩
theorem d_X12_round_114 : kf_dj cX12_round 114 117 118 .goto := ⟨4, by decide +kernel, rfl, by decide⟩
theorem d_X12_round_117 : kf_dq cX12_round 117 118 1 (.iconst 0) := ⟨by decide +kernel, rfl⟩
theorem d_X12_round_118 : kf_dq cX12_round 118 119 1 (.ireturn) := ⟨by decide +kernel, rfl⟩
theorem d_X12_round_119 : kf_dq cX12_round 119 120 1 (.iconst (-1)) := ⟨by decide +kernel, rfl⟩
theorem d_X12_round_120 : kf_dq cX12_round 120 121 1 (.ireturn) := ⟨by decide +kernel, rfl⟩
def f_X12_round (v0 : Nat) (v1 : Int32) (v2 : Int32) (σ : kf_St) : Option (Int32 × kf_St) :=
  (f_X12_isRound v0 v1 σ).bind fun q_1 =>
  if q_1.1 = 0 then
    some ((-1), q_1.2)
  else
    kf_lt (((10 * (q_1.2.1 v0 18)) + v1)) fun v3_3 =>
    if v2 = 0 then
      if kf_ix v3_3 (kf_ln (kf_rf v0 28)) = true then
      some ((q_1.2.1 (kf_rf v0 28) (Int32.toNatClampNeg v3_3)), q_1.2)
      else none
    else
      if v2 = 1 then
        if kf_ix v3_3 (kf_ln (kf_rf v0 29)) = true then
        some ((q_1.2.1 (kf_rf v0 29) (Int32.toNatClampNeg v3_3)), q_1.2)
        else none
      else
        if v2 = 2 then
          if kf_ix v3_3 (kf_ln (kf_rf v0 30)) = true then
          some ((q_1.2.1 (kf_rf v0 30) (Int32.toNatClampNeg v3_3)), q_1.2)
          else none
        else
          if v2 = 3 then
            if kf_ix v3_3 (kf_ln (kf_rf v0 31)) = true then
            some ((q_1.2.1 (kf_rf v0 31) (Int32.toNatClampNeg v3_3)), q_1.2)
            else none
          else
            if v2 = 4 then
              if kf_ix (54 + v1) (kf_ln (kf_rf v0 51)) = true then
              some ((q_1.2.1 (kf_rf v0 51) (Int32.toNatClampNeg (54 + v1))), q_1.2)
              else none
            else
              if v2 = 5 then
                if kf_ix 69 (kf_ln (kf_rf v0 51)) = true then
                (f_X12_isDue v0 v1 (q_1.2.1 (kf_rf v0 51) (Int32.toNatClampNeg 69)) q_1.2).bind fun q_16 =>
                if q_16.1 = 0 then
                  some (0, q_16.2)
                else
                  some (1, q_16.2)
                else none
              else
                some ((-1), q_1.2)
set_option maxRecDepth 100000 in
set_option maxHeartbeats 4000000 in
theorem c_X12_round {G : kf_G} (hty : kf_wt G) (v0 : Nat) (v1 : Int32) (v2 : Int32) (k_v0 : kf_kd G v0 = 13) (σ : kf_St) {q : (Int32 × kf_St)} (h : f_X12_round v0 v1 v2 σ = some q) : kf_Ct (3) yX12_round cX12_round 4 (some .int) G [.ref (kf_ad G v0), .int v1, .int v2] σ (some (.int q.1)) q.2 := by
  refine kf_Ct.of hty.1 (lv := [(0, .ref (kf_ad G v0)), (1, .int v1), (2, .int v2)]) (by decide +kernel) rfl (Nat.le_of_ble_eq_true rfl) (fun X E => ?_)
  unfold f_X12_round at h
  refine wa_aload_n 0 rfl E d_X12_round_0 ?_
  refine wa_iload_n 1 rfl E d_X12_round_1 ?_
  obtain ⟨q_1, hq_1, h⟩ := kf_bd h
  refine wa_callV (st2 := [.int q_1.1]) (c_X12_isRound hty v0 v1 k_v0 σ hq_1) mv_X12_isRound ml_X12_396 k_v0 rfl (Nat.le_of_ble_eq_true rfl) rfl (Nat.le_of_ble_eq_true rfl) E d_X12_round_2 rfl ?_
  refine wa_if_ne E d_X12_round_5 (fun c_2 => ?_) (fun c_2 => ?_)
  · replace h := kf_iff c_2 h
    refine wa_bipush 10 bp_10 E d_X12_round_10 ?_
    refine wa_aload_n 0 rfl E d_X12_round_12 ?_
    refine wa_getI fl_X12_233 k_v0 rfl E d_X12_round_13 ?_
    refine wa_imul E d_X12_round_16 ?_
    refine wa_iload_n 1 rfl E d_X12_round_17 ?_
    refine wa_iadd E d_X12_round_18 ?_
    obtain ⟨v3_3, ev3_3, h⟩ := kf_lte h
    refine wa_topi ev3_3 ?_
    refine wa_istore_n (lv' := [(3, .int v3_3), (0, .ref (kf_ad G v0)), (1, .int v1), (2, .int v2)]) rfl (by decide) rfl E d_X12_round_19 ?_
    refine wa_iload_n 3 rfl E d_X12_round_20 ?_
    by_cases c_4 : v2 = 0
    · replace h := kf_ift c_4 h
      refine wa_tabIn (off := 39) (tgt := 60) (by rw [c_4]; decide) (by rw [c_4]; decide) (by rw [c_4]; rfl) (by decide) E d_X12_round_21 ?_
      refine wa_aload_n 1 rfl E d_X12_round_60 ?_
      refine wa_getR fl_X12_61 k_v0 rfl E d_X12_round_61 ?_
      refine wa_iload_n 0 rfl E d_X12_round_64 ?_
      obtain ⟨g_5, h⟩ := kf_gd h
      refine wa_iald (kf_wtf hty 28 49 k_v0 (by decide) rfl) g_5 E d_X12_round_65 ?_
      cases h
      exact wa_iret E d_X12_round_66
    · replace h := kf_iff c_4 h
      by_cases c_6 : v2 = 1
      · replace h := kf_ift c_6 h
        refine wa_tabIn (off := 46) (tgt := 67) (by rw [c_6]; decide) (by rw [c_6]; decide) (by rw [c_6]; rfl) (by decide) E d_X12_round_21 ?_
        refine wa_aload_n 1 rfl E d_X12_round_67 ?_
        refine wa_getR fl_X12_64 k_v0 rfl E d_X12_round_68 ?_
        refine wa_iload_n 0 rfl E d_X12_round_71 ?_
        obtain ⟨g_7, h⟩ := kf_gd h
        refine wa_iald (kf_wtf hty 29 49 k_v0 (by decide) rfl) g_7 E d_X12_round_72 ?_
        cases h
        exact wa_iret E d_X12_round_73
      · replace h := kf_iff c_6 h
        by_cases c_8 : v2 = 2
        · replace h := kf_ift c_8 h
          refine wa_tabIn (off := 53) (tgt := 74) (by rw [c_8]; decide) (by rw [c_8]; decide) (by rw [c_8]; rfl) (by decide) E d_X12_round_21 ?_
          refine wa_aload_n 1 rfl E d_X12_round_74 ?_
          refine wa_getR fl_X12_67 k_v0 rfl E d_X12_round_75 ?_
          refine wa_iload_n 0 rfl E d_X12_round_78 ?_
          obtain ⟨g_9, h⟩ := kf_gd h
          refine wa_iald (kf_wtf hty 30 49 k_v0 (by decide) rfl) g_9 E d_X12_round_79 ?_
          cases h
          exact wa_iret E d_X12_round_80
        · replace h := kf_iff c_8 h
          by_cases c_10 : v2 = 3
          · replace h := kf_ift c_10 h
            refine wa_tabIn (off := 60) (tgt := 81) (by rw [c_10]; decide) (by rw [c_10]; decide) (by rw [c_10]; rfl) (by decide) E d_X12_round_21 ?_
            refine wa_aload_n 1 rfl E d_X12_round_81 ?_
            refine wa_getR fl_X12_70 k_v0 rfl E d_X12_round_82 ?_
            refine wa_iload_n 0 rfl E d_X12_round_85 ?_
            obtain ⟨g_11, h⟩ := kf_gd h
            refine wa_iald (kf_wtf hty 31 49 k_v0 (by decide) rfl) g_11 E d_X12_round_86 ?_
            cases h
            exact wa_iret E d_X12_round_87
          · replace h := kf_iff c_10 h
            by_cases c_12 : v2 = 4
            · replace h := kf_ift c_12 h
              refine wa_tabIn (off := 67) (tgt := 88) (by rw [c_12]; decide) (by rw [c_12]; decide) (by rw [c_12]; rfl) (by decide) E d_X12_round_21 ?_
              refine wa_aload_n 1 rfl E d_X12_round_88 ?_
              refine wa_getR fl_X12_119 k_v0 rfl E d_X12_round_89 ?_
              refine wa_bipush 54 bp_54 E d_X12_round_92 ?_
              refine wa_iload_n 2 rfl E d_X12_round_94 ?_
              refine wa_iadd E d_X12_round_95 ?_
              obtain ⟨g_13, h⟩ := kf_gd h
              refine wa_iald (kf_wtf hty 51 49 k_v0 (by decide) rfl) g_13 E d_X12_round_96 ?_
              cases h
              exact wa_iret E d_X12_round_97
            · replace h := kf_iff c_12 h
              by_cases c_14 : v2 = 5
              · replace h := kf_ift c_14 h
                refine wa_tabIn (off := 77) (tgt := 98) (by rw [c_14]; decide) (by rw [c_14]; decide) (by rw [c_14]; rfl) (by decide) E d_X12_round_21 ?_
                refine wa_aload_n 1 rfl E d_X12_round_98 ?_
                refine wa_iload_n 2 rfl E d_X12_round_99 ?_
                refine wa_aload_n 1 rfl E d_X12_round_100 ?_
                refine wa_getR fl_X12_119 k_v0 rfl E d_X12_round_101 ?_
                refine wa_bipush 69 bp_69 E d_X12_round_104 ?_
                obtain ⟨g_15, h⟩ := kf_gd h
                refine wa_iald (kf_wtf hty 51 49 k_v0 (by decide) rfl) g_15 E d_X12_round_106 ?_
                obtain ⟨q_16, hq_16, h⟩ := kf_bd h
                refine wa_callV (st2 := [.int q_16.1]) (c_X12_isDue hty v0 v1 (q_1.2.1 (kf_rf v0 51) (Int32.toNatClampNeg 69)) k_v0 q_1.2 hq_16) mv_X12_isDue ml_X12_370 k_v0 rfl (Nat.le_of_ble_eq_true rfl) rfl (Nat.le_of_ble_eq_true rfl) E d_X12_round_107 rfl ?_
                refine wa_if_eq E d_X12_round_110 (fun c_17 => ?_) (fun c_17 => ?_)
                · replace h := kf_ift c_17 h
                  refine wa_iconst 0 ic_0 E d_X12_round_117 ?_
                  cases h
                  exact wa_iret E d_X12_round_118
                · replace h := kf_iff c_17 h
                  refine wa_iconst 1 ic_1 E d_X12_round_113 ?_
                  refine wa_goto E d_X12_round_114 ?_
                  cases h
                  exact wa_iret E d_X12_round_118
              · replace h := kf_iff c_14 h
                refine wa_tabOut (tgt := 119) (kf_out [0, 1, 2, 3, 4, 5] (by decide +kernel) (List.forall_mem_cons.mpr ⟨c_4, List.forall_mem_cons.mpr ⟨c_6, List.forall_mem_cons.mpr ⟨c_8, List.forall_mem_cons.mpr ⟨c_10, List.forall_mem_cons.mpr ⟨c_12, List.forall_mem_cons.mpr ⟨c_14, fun _ h => absurd h List.not_mem_nil⟩⟩⟩⟩⟩⟩)) (by decide) E d_X12_round_21 ?_
                refine wa_iconst (-1) ic_m1 E d_X12_round_119 ?_
                cases h
                exact wa_iret E d_X12_round_120
  · replace h := kf_ift c_2 h
    refine wa_iconst (-1) ic_m1 E d_X12_round_8 ?_
    cases h
    exact wa_iret E d_X12_round_9
/-! X12_areBoth -/
theorem d_X12_areBoth_0 : kf_dq cX12_areBoth 0 1 1 (.aload_n 0) := ⟨by decide +kernel, rfl⟩
theorem d_X12_areBoth_1 : kf_dq cX12_areBoth 1 2 1 (.iload_n 1) := ⟨by decide +kernel, rfl⟩
theorem d_X12_areBoth_2 : kf_dq cX12_areBoth 2 5 3 (.invokevirtual 387) := ⟨by decide +kernel, rfl⟩
theorem d_X12_areBoth_5 : kf_dj cX12_areBoth 5 8 20 (.ifCond .eq) := ⟨15, by decide +kernel, rfl, by decide⟩
theorem d_X12_areBoth_8 : kf_dq cX12_areBoth 8 9 1 (.aload_n 0) := ⟨by decide +kernel, rfl⟩
theorem d_X12_areBoth_9 : kf_dq cX12_areBoth 9 10 1 (.iload_n 2) := ⟨by decide +kernel, rfl⟩
theorem d_X12_areBoth_10 : kf_dq cX12_areBoth 10 13 3 (.invokevirtual 393) := ⟨by decide +kernel, rfl⟩
theorem d_X12_areBoth_13 : kf_dj cX12_areBoth 13 16 20 (.ifCond .eq) := ⟨7, by decide +kernel, rfl, by decide⟩
theorem d_X12_areBoth_16 : kf_dq cX12_areBoth 16 17 1 (.iconst 1) := ⟨by decide +kernel, rfl⟩
theorem d_X12_areBoth_17 : kf_dj cX12_areBoth 17 20 21 .goto := ⟨4, by decide +kernel, rfl, by decide⟩
theorem d_X12_areBoth_20 : kf_dq cX12_areBoth 20 21 1 (.iconst 0) := ⟨by decide +kernel, rfl⟩
theorem d_X12_areBoth_21 : kf_dq cX12_areBoth 21 22 1 (.ireturn) := ⟨by decide +kernel, rfl⟩
def f_X12_areBoth (v0 : Nat) (v1 : Int32) (v2 : Int32) (σ : kf_St) : Option (Int32 × kf_St) :=
  (f_X12_isDoor v0 v1 σ).bind fun q_1 =>
  if q_1.1 = 0 then
    some (0, q_1.2)
  else
    (f_X12_isCaller v0 v2 q_1.2).bind fun q_3 =>
    if q_3.1 = 0 then
      some (0, q_3.2)
    else
      some (1, q_3.2)
set_option maxRecDepth 100000 in
set_option maxHeartbeats 4000000 in
theorem c_X12_areBoth {G : kf_G} (hty : kf_wt G) (v0 : Nat) (v1 : Int32) (v2 : Int32) (k_v0 : kf_kd G v0 = 13) (σ : kf_St) {q : (Int32 × kf_St)} (h : f_X12_areBoth v0 v1 v2 σ = some q) : kf_Ct (3) yX12_areBoth cX12_areBoth 3 (some .boolean) G [.ref (kf_ad G v0), .int v1, .int v2] σ (some (.int q.1)) q.2 := by
  refine kf_Ct.of hty.1 (lv := [(0, .ref (kf_ad G v0)), (1, .int v1), (2, .int v2)]) (by decide +kernel) rfl (Nat.le_of_ble_eq_true rfl) (fun X E => ?_)
  unfold f_X12_areBoth at h
  refine wa_aload_n 0 rfl E d_X12_areBoth_0 ?_
  refine wa_iload_n 1 rfl E d_X12_areBoth_1 ?_
  obtain ⟨q_1, hq_1, h⟩ := kf_bd h
  refine wa_callV (st2 := [.int q_1.1]) (c_X12_isDoor hty v0 v1 k_v0 σ hq_1) mv_X12_isDoor ml_X12_387 k_v0 rfl (Nat.le_of_ble_eq_true rfl) rfl (Nat.le_of_ble_eq_true rfl) E d_X12_areBoth_2 rfl ?_
  refine wa_if_eq E d_X12_areBoth_5 (fun c_2 => ?_) (fun c_2 => ?_)
  · replace h := kf_ift c_2 h
    refine wa_iconst 0 ic_0 E d_X12_areBoth_20 ?_
    cases h
    exact wa_zret kf_z0 E d_X12_areBoth_21
  · replace h := kf_iff c_2 h
    refine wa_aload_n 0 rfl E d_X12_areBoth_8 ?_
    refine wa_iload_n 2 rfl E d_X12_areBoth_9 ?_
    obtain ⟨q_3, hq_3, h⟩ := kf_bd h
    refine wa_callV (st2 := [.int q_3.1]) (c_X12_isCaller hty v0 v2 k_v0 q_1.2 hq_3) mv_X12_isCaller ml_X12_393 k_v0 rfl (Nat.le_of_ble_eq_true rfl) rfl (Nat.le_of_ble_eq_true rfl) E d_X12_areBoth_10 rfl ?_
    refine wa_if_eq E d_X12_areBoth_13 (fun c_4 => ?_) (fun c_4 => ?_)
    · replace h := kf_ift c_4 h
      refine wa_iconst 0 ic_0 E d_X12_areBoth_20 ?_
      cases h
      exact wa_zret kf_z0 E d_X12_areBoth_21
    · replace h := kf_iff c_4 h
      refine wa_iconst 1 ic_1 E d_X12_areBoth_16 ?_
      refine wa_goto E d_X12_areBoth_17 ?_
      cases h
      exact wa_zret kf_z1 E d_X12_areBoth_21
/-! X12_unlike -/
theorem d_X12_unlike_0 : kf_dq cX12_unlike 0 1 1 (.aload_n 0) := ⟨by decide +kernel, rfl⟩
theorem d_X12_unlike_1 : kf_dq cX12_unlike 1 2 1 (.iload_n 1) := ⟨by decide +kernel, rfl⟩
theorem d_X12_unlike_2 : kf_dq cX12_unlike 2 3 1 (.iload_n 2) := ⟨by decide +kernel, rfl⟩
theorem d_X12_unlike_3 : kf_dq cX12_unlike 3 6 3 (.invokevirtual 399) := ⟨by decide +kernel, rfl⟩
theorem d_X12_unlike_6 : kf_dj cX12_unlike 6 9 11 (.ifCond .ne) := ⟨5, by decide +kernel, rfl, by decide⟩
theorem d_X12_unlike_9 : kf_dq cX12_unlike 9 10 1 (.iconst (-1)) := ⟨by decide +kernel, rfl⟩
theorem d_X12_unlike_10 : kf_dq cX12_unlike 10 11 1 (.ireturn) := ⟨by decide +kernel, rfl⟩
theorem d_X12_unlike_11 : kf_dq cX12_unlike 11 12 1 (.aload_n 0) := ⟨by decide +kernel, rfl⟩
theorem d_X12_unlike_12 : kf_dq cX12_unlike 12 15 3 (.invokevirtual 323) := ⟨by decide +kernel, rfl⟩
theorem d_X12_unlike_15 : kf_dq cX12_unlike 15 16 1 (.aload_n 0) := ⟨by decide +kernel, rfl⟩
theorem d_X12_unlike_16 : kf_dq cX12_unlike 16 17 1 (.iload_n 1) := ⟨by decide +kernel, rfl⟩
theorem d_X12_unlike_17 : kf_dq cX12_unlike 17 18 1 (.iload_n 2) := ⟨by decide +kernel, rfl⟩
theorem d_X12_unlike_18 : kf_dq cX12_unlike 18 21 3 (.invokevirtual 342) := ⟨by decide +kernel, rfl⟩
theorem d_X12_unlike_21 : kf_dq cX12_unlike 21 22 1 (.ireturn) := ⟨by decide +kernel, rfl⟩
def f_X12_unlike (v0 : Nat) (v1 : Int32) (v2 : Int32) (σ : kf_St) : Option (Int32 × kf_St) :=
  (f_X12_areBoth v0 v1 v2 σ).bind fun q_1 =>
  if q_1.1 = 0 then
    some ((-1), q_1.2)
  else
    (f_X12_copies v0 q_1.2).bind fun q_3 =>
    (f_X12_unlikeTo v0 v1 v2 q_3).bind fun q_4 =>
    some (q_4.1, q_4.2)
set_option maxRecDepth 100000 in
set_option maxHeartbeats 4000000 in
theorem c_X12_unlike {G : kf_G} (hty : kf_wt G) (v0 : Nat) (v1 : Int32) (v2 : Int32) (k_v0 : kf_kd G v0 = 13) (σ : kf_St) {q : (Int32 × kf_St)} (h : f_X12_unlike v0 v1 v2 σ = some q) : kf_Ct (4) yX12_unlike cX12_unlike 3 (some .int) G [.ref (kf_ad G v0), .int v1, .int v2] σ (some (.int q.1)) q.2 := by
  refine kf_Ct.of hty.1 (lv := [(0, .ref (kf_ad G v0)), (1, .int v1), (2, .int v2)]) (by decide +kernel) rfl (Nat.le_of_ble_eq_true rfl) (fun X E => ?_)
  unfold f_X12_unlike at h
  refine wa_aload_n 0 rfl E d_X12_unlike_0 ?_
  refine wa_iload_n 1 rfl E d_X12_unlike_1 ?_
  refine wa_iload_n 2 rfl E d_X12_unlike_2 ?_
  obtain ⟨q_1, hq_1, h⟩ := kf_bd h
  refine wa_callV (st2 := [.int q_1.1]) (c_X12_areBoth hty v0 v1 v2 k_v0 σ hq_1) mv_X12_areBoth ml_X12_399 k_v0 rfl (Nat.le_of_ble_eq_true rfl) rfl (Nat.le_of_ble_eq_true rfl) E d_X12_unlike_3 rfl ?_
  refine wa_if_ne E d_X12_unlike_6 (fun c_2 => ?_) (fun c_2 => ?_)
  · replace h := kf_iff c_2 h
    refine wa_aload_n 0 rfl E d_X12_unlike_11 ?_
    obtain ⟨q_3, hq_3, h⟩ := kf_bd h
    refine wa_callV (st2 := []) (c_X12_copies hty v0 k_v0 q_1.2 hq_3) mv_X12_copies ml_X12_323 k_v0 rfl (Nat.le_of_ble_eq_true rfl) rfl (Nat.le_of_ble_eq_true rfl) E d_X12_unlike_12 rfl ?_
    refine wa_aload_n 0 rfl E d_X12_unlike_15 ?_
    refine wa_iload_n 1 rfl E d_X12_unlike_16 ?_
    refine wa_iload_n 2 rfl E d_X12_unlike_17 ?_
    obtain ⟨q_4, hq_4, h⟩ := kf_bd h
    refine wa_callV (st2 := [.int q_4.1]) (c_X12_unlikeTo hty v0 v1 v2 k_v0 q_3 hq_4) mv_X12_unlikeTo ml_X12_342 k_v0 rfl (Nat.le_of_ble_eq_true rfl) rfl (Nat.le_of_ble_eq_true rfl) E d_X12_unlike_18 rfl ?_
    cases h
    exact wa_iret E d_X12_unlike_21
  · replace h := kf_ift c_2 h
    refine wa_iconst (-1) ic_m1 E d_X12_unlike_9 ?_
    cases h
    exact wa_iret E d_X12_unlike_10
/-! X12_tells -/
theorem d_X12_tells_0 : kf_dq cX12_tells 0 1 1 (.aload_n 0) := ⟨by decide +kernel, rfl⟩
theorem d_X12_tells_1 : kf_dq cX12_tells 1 2 1 (.iload_n 1) := ⟨by decide +kernel, rfl⟩
theorem d_X12_tells_2 : kf_dq cX12_tells 2 3 1 (.iload_n 2) := ⟨by decide +kernel, rfl⟩
theorem d_X12_tells_3 : kf_dq cX12_tells 3 6 3 (.invokevirtual 399) := ⟨by decide +kernel, rfl⟩
theorem d_X12_tells_6 : kf_dj cX12_tells 6 9 18 (.ifCond .eq) := ⟨12, by decide +kernel, rfl, by decide⟩
theorem d_X12_tells_9 : kf_dq cX12_tells 9 10 1 (.iload_n 3) := ⟨by decide +kernel, rfl⟩
theorem d_X12_tells_10 : kf_dq cX12_tells 10 11 1 (.iconst 0) := ⟨by decide +kernel, rfl⟩
theorem d_X12_tells_11 : kf_dq cX12_tells 11 12 1 (.iconst 4) := ⟨by decide +kernel, rfl⟩
theorem d_X12_tells_12 : kf_dq cX12_tells 12 15 3 (.invokestatic 313) := ⟨by decide +kernel, rfl⟩
theorem d_X12_tells_15 : kf_dj cX12_tells 15 18 20 (.ifCond .ne) := ⟨5, by decide +kernel, rfl, by decide⟩
theorem d_X12_tells_18 : kf_dq cX12_tells 18 19 1 (.iconst (-1)) := ⟨by decide +kernel, rfl⟩
theorem d_X12_tells_19 : kf_dq cX12_tells 19 20 1 (.ireturn) := ⟨by decide +kernel, rfl⟩
theorem d_X12_tells_20 : kf_dq cX12_tells 20 21 1 (.aload_n 0) := ⟨by decide +kernel, rfl⟩
theorem d_X12_tells_21 : kf_dq cX12_tells 21 24 3 (.invokevirtual 323) := ⟨by decide +kernel, rfl⟩
theorem d_X12_tells_24 : kf_dq cX12_tells 24 25 1 (.iload_n 3) := ⟨by decide +kernel, rfl⟩
theorem d_X12_tells_25 : kf_dq cX12_tells 25 26 1 (.iconst 4) := ⟨by decide +kernel, rfl⟩
theorem d_X12_tells_26 : kf_dj cX12_tells 26 29 38 (.if_icmp .ne) := ⟨12, by decide +kernel, rfl, by decide⟩
theorem d_X12_tells_29 : kf_dq cX12_tells 29 30 1 (.aload_n 0) := ⟨by decide +kernel, rfl⟩
theorem d_X12_tells_30 : kf_dq cX12_tells 30 31 1 (.iload_n 1) := ⟨by decide +kernel, rfl⟩
theorem d_X12_tells_31 : kf_dq cX12_tells 31 32 1 (.iload_n 2) := ⟨by decide +kernel, rfl⟩
theorem d_X12_tells_32 : kf_dq cX12_tells 32 35 3 (.invokevirtual 360) := ⟨by decide +kernel, rfl⟩
theorem d_X12_tells_35 : kf_dj cX12_tells 35 38 45 .goto := ⟨10, by decide +kernel, rfl, by decide⟩
theorem d_X12_tells_38 : kf_dq cX12_tells 38 39 1 (.aload_n 0) := ⟨by decide +kernel, rfl⟩
theorem d_X12_tells_39 : kf_dq cX12_tells 39 40 1 (.iload_n 1) := ⟨by decide +kernel, rfl⟩
theorem d_X12_tells_40 : kf_dq cX12_tells 40 41 1 (.iload_n 2) := ⟨by decide +kernel, rfl⟩
theorem d_X12_tells_41 : kf_dq cX12_tells 41 42 1 (.iload_n 3) := ⟨by decide +kernel, rfl⟩
theorem d_X12_tells_42 : kf_dq cX12_tells 42 45 3 (.invokevirtual 363) := ⟨by decide +kernel, rfl⟩
theorem d_X12_tells_45 : kf_dq cX12_tells 45 46 1 (.ireturn) := ⟨by decide +kernel, rfl⟩
def f_X12_tells (v0 : Nat) (v1 : Int32) (v2 : Int32) (v3 : Int32) (σ : kf_St) : Option (Int32 × kf_St) :=
  (f_X12_areBoth v0 v1 v2 σ).bind fun q_1 =>
  if q_1.1 = 0 then
    some ((-1), q_1.2)
  else
    (f_X12_in v3 0 4 q_1.2).bind fun q_3 =>
    if q_3.1 = 0 then
      some ((-1), q_3.2)
    else
      (f_X12_copies v0 q_3.2).bind fun q_5 =>
      if v3 = 4 then
        (f_X12_paysOf v0 v1 v2 q_5).bind fun q_8 =>
        some (q_8.1, q_8.2)
      else
        (f_X12_givesOf v0 v1 v2 v3 q_5).bind fun q_7 =>
        some (q_7.1, q_7.2)
set_option maxRecDepth 100000 in
set_option maxHeartbeats 4000000 in
theorem c_X12_tells {G : kf_G} (hty : kf_wt G) (v0 : Nat) (v1 : Int32) (v2 : Int32) (v3 : Int32) (k_v0 : kf_kd G v0 = 13) (σ : kf_St) {q : (Int32 × kf_St)} (h : f_X12_tells v0 v1 v2 v3 σ = some q) : kf_Ct (4) yX12_tells cX12_tells 4 (some .int) G [.ref (kf_ad G v0), .int v1, .int v2, .int v3] σ (some (.int q.1)) q.2 := by
  refine kf_Ct.of hty.1 (lv := [(0, .ref (kf_ad G v0)), (1, .int v1), (2, .int v2), (3, .int v3)]) (by decide +kernel) rfl (Nat.le_of_ble_eq_true rfl) (fun X E => ?_)
  unfold f_X12_tells at h
  refine wa_aload_n 0 rfl E d_X12_tells_0 ?_
  refine wa_iload_n 1 rfl E d_X12_tells_1 ?_
  refine wa_iload_n 2 rfl E d_X12_tells_2 ?_
  obtain ⟨q_1, hq_1, h⟩ := kf_bd h
  refine wa_callV (st2 := [.int q_1.1]) (c_X12_areBoth hty v0 v1 v2 k_v0 σ hq_1) mv_X12_areBoth ml_X12_399 k_v0 rfl (Nat.le_of_ble_eq_true rfl) rfl (Nat.le_of_ble_eq_true rfl) E d_X12_tells_3 rfl ?_
  refine wa_if_eq E d_X12_tells_6 (fun c_2 => ?_) (fun c_2 => ?_)
  · replace h := kf_ift c_2 h
    refine wa_iconst (-1) ic_m1 E d_X12_tells_18 ?_
    cases h
    exact wa_iret E d_X12_tells_19
  · replace h := kf_iff c_2 h
    refine wa_iload_n 3 rfl E d_X12_tells_9 ?_
    refine wa_iconst 0 ic_0 E d_X12_tells_10 ?_
    refine wa_iconst 4 ic_4 E d_X12_tells_11 ?_
    obtain ⟨q_3, hq_3, h⟩ := kf_bd h
    refine wa_callS (st2 := [.int q_3.1]) (c_X12_in hty v3 0 4 q_1.2 hq_3) mt_X12_in ml_X12_313 rfl (Nat.le_of_ble_eq_true rfl) rfl (Nat.le_of_ble_eq_true rfl) E d_X12_tells_12 rfl ?_
    refine wa_if_ne E d_X12_tells_15 (fun c_4 => ?_) (fun c_4 => ?_)
    · replace h := kf_iff c_4 h
      refine wa_aload_n 0 rfl E d_X12_tells_20 ?_
      obtain ⟨q_5, hq_5, h⟩ := kf_bd h
      refine wa_callV (st2 := []) (c_X12_copies hty v0 k_v0 q_3.2 hq_5) mv_X12_copies ml_X12_323 k_v0 rfl (Nat.le_of_ble_eq_true rfl) rfl (Nat.le_of_ble_eq_true rfl) E d_X12_tells_21 rfl ?_
      refine wa_iload_n 3 rfl E d_X12_tells_24 ?_
      refine wa_iconst 4 ic_4 E d_X12_tells_25 ?_
      refine wa_icmp_ne E d_X12_tells_26 (fun c_6 => ?_) (fun c_6 => ?_)
      · replace h := kf_iff c_6 h
        refine wa_aload_n 0 rfl E d_X12_tells_38 ?_
        refine wa_iload_n 1 rfl E d_X12_tells_39 ?_
        refine wa_iload_n 2 rfl E d_X12_tells_40 ?_
        refine wa_iload_n 3 rfl E d_X12_tells_41 ?_
        obtain ⟨q_7, hq_7, h⟩ := kf_bd h
        refine wa_callV (st2 := [.int q_7.1]) (c_X12_givesOf hty v0 v1 v2 v3 k_v0 q_5 hq_7) mv_X12_givesOf ml_X12_363 k_v0 rfl (Nat.le_of_ble_eq_true rfl) rfl (Nat.le_of_ble_eq_true rfl) E d_X12_tells_42 rfl ?_
        cases h
        exact wa_iret E d_X12_tells_45
      · replace h := kf_ift c_6 h
        refine wa_aload_n 0 rfl E d_X12_tells_29 ?_
        refine wa_iload_n 1 rfl E d_X12_tells_30 ?_
        refine wa_iload_n 2 rfl E d_X12_tells_31 ?_
        obtain ⟨q_8, hq_8, h⟩ := kf_bd h
        refine wa_callV (st2 := [.int q_8.1]) (c_X12_paysOf hty v0 v1 v2 k_v0 q_5 hq_8) mv_X12_paysOf ml_X12_360 k_v0 rfl (Nat.le_of_ble_eq_true rfl) rfl (Nat.le_of_ble_eq_true rfl) E d_X12_tells_32 rfl ?_
        refine wa_goto E d_X12_tells_35 ?_
        cases h
        exact wa_iret E d_X12_tells_45
    · replace h := kf_ift c_4 h
      refine wa_iconst (-1) ic_m1 E d_X12_tells_18 ?_
      cases h
      exact wa_iret E d_X12_tells_19
/-! X12_records -/
theorem d_X12_records_0 : kf_dq cX12_records 0 1 1 (.aload_n 0) := ⟨by decide +kernel, rfl⟩
theorem d_X12_records_1 : kf_dq cX12_records 1 4 3 (.getfield 251) := ⟨by decide +kernel, rfl⟩
theorem d_X12_records_4 : kf_dq cX12_records 4 6 2 (.bipush 40) := ⟨by decide +kernel, rfl⟩
theorem d_X12_records_6 : kf_dj cX12_records 6 9 49 (.if_icmp .ne) := ⟨43, by decide +kernel, rfl, by decide⟩
theorem d_X12_records_9 : kf_dq cX12_records 9 10 1 (.iconst 0) := ⟨by decide +kernel, rfl⟩
theorem d_X12_records_10 : kf_dq cX12_records 10 11 1 (.istore_n 1) := ⟨by decide +kernel, rfl⟩
theorem d_X12_records_11 : kf_dq cX12_records 11 12 1 (.iload_n 1) := ⟨by decide +kernel, rfl⟩
theorem d_X12_records_12 : kf_dq cX12_records 12 15 3 (.sipush 2730) := ⟨by decide +kernel, rfl⟩
theorem d_X12_records_15 : kf_dj cX12_records 15 18 39 (.if_icmp .ge) := ⟨24, by decide +kernel, rfl, by decide⟩
theorem d_X12_records_18 : kf_dq cX12_records 18 19 1 (.aload_n 0) := ⟨by decide +kernel, rfl⟩
theorem d_X12_records_19 : kf_dq cX12_records 19 22 3 (.getfield 128) := ⟨by decide +kernel, rfl⟩
theorem d_X12_records_22 : kf_dq cX12_records 22 23 1 (.iload_n 1) := ⟨by decide +kernel, rfl⟩
theorem d_X12_records_23 : kf_dq cX12_records 23 24 1 (.aload_n 0) := ⟨by decide +kernel, rfl⟩
theorem d_X12_records_24 : kf_dq cX12_records 24 27 3 (.getfield 128) := ⟨by decide +kernel, rfl⟩
theorem d_X12_records_27 : kf_dq cX12_records 27 28 1 (.iload_n 1) := ⟨by decide +kernel, rfl⟩
theorem d_X12_records_28 : kf_dq cX12_records 28 30 2 (.bipush 70) := ⟨by decide +kernel, rfl⟩
theorem d_X12_records_30 : kf_dq cX12_records 30 31 1 (.iadd) := ⟨by decide +kernel, rfl⟩
theorem d_X12_records_31 : kf_dq cX12_records 31 32 1 (.iaload) := ⟨by decide +kernel, rfl⟩
theorem d_X12_records_32 : kf_dq cX12_records 32 33 1 (.iastore) := ⟨by decide +kernel, rfl⟩
theorem d_X12_records_33 : kf_dq cX12_records 33 36 3 (.iinc 1 1) := ⟨by decide +kernel, rfl⟩
theorem d_X12_records_36 : kf_dj cX12_records 36 39 11 .goto := ⟨(-25), by decide +kernel, rfl, by decide⟩
theorem d_X12_records_39 : kf_dq cX12_records 39 40 1 (.aload_n 0) := ⟨by decide +kernel, rfl⟩
theorem d_X12_records_40 : kf_dq cX12_records 40 41 1 (.dup) := ⟨by decide +kernel, rfl⟩
theorem d_X12_records_41 : kf_dq cX12_records 41 44 3 (.getfield 251) := ⟨by decide +kernel, rfl⟩
theorem d_X12_records_44 : kf_dq cX12_records 44 45 1 (.iconst 1) := ⟨by decide +kernel, rfl⟩
theorem d_X12_records_45 : kf_dq cX12_records 45 46 1 (.isub) := ⟨by decide +kernel, rfl⟩
theorem d_X12_records_46 : kf_dq cX12_records 46 49 3 (.putfield 251) := ⟨by decide +kernel, rfl⟩
theorem d_X12_records_49 : kf_dq cX12_records 49 50 1 (.iconst 0) := ⟨by decide +kernel, rfl⟩
theorem d_X12_records_50 : kf_dq cX12_records 50 51 1 (.istore_n 1) := ⟨by decide +kernel, rfl⟩
theorem d_X12_records_51 : kf_dq cX12_records 51 52 1 (.iload_n 1) := ⟨by decide +kernel, rfl⟩
theorem d_X12_records_52 : kf_dq cX12_records 52 54 2 (.bipush 70) := ⟨by decide +kernel, rfl⟩
theorem d_X12_records_54 : kf_dj cX12_records 54 57 83 (.if_icmp .ge) := ⟨29, by decide +kernel, rfl, by decide⟩
theorem d_X12_records_57 : kf_dq cX12_records 57 58 1 (.aload_n 0) := ⟨by decide +kernel, rfl⟩
theorem d_X12_records_58 : kf_dq cX12_records 58 61 3 (.getfield 128) := ⟨by decide +kernel, rfl⟩
theorem d_X12_records_61 : kf_dq cX12_records 61 63 2 (.bipush 70) := ⟨by decide +kernel, rfl⟩
theorem d_X12_records_63 : kf_dq cX12_records 63 64 1 (.aload_n 0) := ⟨by decide +kernel, rfl⟩
theorem d_X12_records_64 : kf_dq cX12_records 64 67 3 (.getfield 251) := ⟨by decide +kernel, rfl⟩
theorem d_X12_records_67 : kf_dq cX12_records 67 68 1 (.imul) := ⟨by decide +kernel, rfl⟩
theorem d_X12_records_68 : kf_dq cX12_records 68 69 1 (.iload_n 1) := ⟨by decide +kernel, rfl⟩
theorem d_X12_records_69 : kf_dq cX12_records 69 70 1 (.iadd) := ⟨by decide +kernel, rfl⟩
theorem d_X12_records_70 : kf_dq cX12_records 70 71 1 (.aload_n 0) := ⟨by decide +kernel, rfl⟩
theorem d_X12_records_71 : kf_dq cX12_records 71 74 3 (.getfield 119) := ⟨by decide +kernel, rfl⟩
theorem d_X12_records_74 : kf_dq cX12_records 74 75 1 (.iload_n 1) := ⟨by decide +kernel, rfl⟩
theorem d_X12_records_75 : kf_dq cX12_records 75 76 1 (.iaload) := ⟨by decide +kernel, rfl⟩
theorem d_X12_records_76 : kf_dq cX12_records 76 77 1 (.iastore) := ⟨by decide +kernel, rfl⟩
theorem d_X12_records_77 : kf_dq cX12_records 77 80 3 (.iinc 1 1) := ⟨by decide +kernel, rfl⟩
theorem d_X12_records_80 : kf_dj cX12_records 80 83 51 .goto := ⟨(-29), by decide +kernel, rfl, by decide⟩
theorem d_X12_records_83 : kf_dq cX12_records 83 84 1 (.aload_n 0) := ⟨by decide +kernel, rfl⟩
theorem d_X12_records_84 : kf_dq cX12_records 84 85 1 (.dup) := ⟨by decide +kernel, rfl⟩
theorem d_X12_records_85 : kf_dq cX12_records 85 88 3 (.getfield 251) := ⟨by decide +kernel, rfl⟩
theorem d_X12_records_88 : kf_dq cX12_records 88 89 1 (.iconst 1) := ⟨by decide +kernel, rfl⟩
theorem d_X12_records_89 : kf_dq cX12_records 89 90 1 (.iadd) := ⟨by decide +kernel, rfl⟩
theorem d_X12_records_90 : kf_dq cX12_records 90 93 3 (.putfield 251) := ⟨by decide +kernel, rfl⟩
theorem d_X12_records_93 : kf_dq cX12_records 93 94 1 (.aload_n 0) := ⟨by decide +kernel, rfl⟩
theorem d_X12_records_94 : kf_dq cX12_records 94 97 3 (.invokevirtual 163) := ⟨by decide +kernel, rfl⟩
theorem d_X12_records_97 : kf_dq cX12_records 97 98 1 (.return_) := ⟨by decide +kernel, rfl⟩
def f_X12_records_51_s (rec51 : Nat → Int32 → kf_St → Option kf_St) (v0 : Nat) (v1 : Int32) (σ : kf_St) : Option kf_St :=
  if 70 ≤ v1 then
    kf_lt (kf_wi σ v0 56 ((σ.1 v0 56) + 1)) fun σ_2 =>
    (f_X12_keepsRow v0 σ_2).bind fun q_3 =>
    some q_3
  else
    if kf_ix v1 (kf_ln (kf_rf v0 51)) = true then
    if kf_ix ((70 * (σ.1 v0 56)) + v1) (kf_ln (kf_rf v0 57)) = true then
    kf_lt (kf_wi σ (kf_rf v0 57) (Int32.toNatClampNeg ((70 * (σ.1 v0 56)) + v1)) (σ.1 (kf_rf v0 51) (Int32.toNatClampNeg v1))) fun σ_6 =>
    kf_lt (v1 + 1) fun v1_7 =>
    rec51 v0 v1_7 σ_6
    else none
    else none
def f_X12_records_51 : Nat → Nat → Int32 → kf_St → Option kf_St
  | 0, _, _, _ => none
  | n + 1, v0, v1, σ => f_X12_records_51_s (f_X12_records_51 n) v0 v1 σ
set_option maxRecDepth 100000 in
set_option maxHeartbeats 4000000 in
theorem b_X12_records_51_s {X : kf_X} {G : kf_G} (rec51 : Nat → Int32 → kf_St → Option kf_St) {q : kf_St} (E : kf_ok X G cX12_records RX12 2 none (2)) (hty : kf_wt G) (hrec51 : ∀ (v0 : Nat) (v1 : Int32) (k_v0 : kf_kd G v0 = 13) (σ : kf_St), rec51 v0 v1 σ = some q → kf_WA X G 2 (kf_Q X G none q) 51 [(0, .ref (kf_ad G v0)), (1, .int v1)] [] σ) (v0 : Nat) (v1 : Int32) (k_v0 : kf_kd G v0 = 13) (σ : kf_St) (h : f_X12_records_51_s rec51 v0 v1 σ = some q) : kf_WA X G 2 (kf_Q X G none q) 51 [(0, .ref (kf_ad G v0)), (1, .int v1)] [] σ := by
  unfold f_X12_records_51_s at h
  refine wa_iload_n 1 rfl E d_X12_records_51 ?_
  refine wa_bipush 70 bp_70 E d_X12_records_52 ?_
  refine wa_icmp_ge E d_X12_records_54 (fun c_1 => ?_) (fun c_1 => ?_)
  · replace h := kf_ift c_1 h
    refine wa_aload_n 0 rfl E d_X12_records_83 ?_
    refine wa_dup rfl E d_X12_records_84 ?_
    refine wa_getI fl_X12_251 k_v0 rfl E d_X12_records_85 ?_
    refine wa_iconst 1 ic_1 E d_X12_records_88 ?_
    refine wa_iadd E d_X12_records_89 ?_
    obtain ⟨σ_2, eσ_2, h⟩ := kf_lte h
    refine wa_putI fl_X12_251 fp_12_56 k_v0 rfl (by decide) rfl rfl E d_X12_records_90 eσ_2 ?_
    refine wa_aload_n 0 rfl E d_X12_records_93 ?_
    obtain ⟨q_3, hq_3, h⟩ := kf_bd h
    refine wa_callV (st2 := []) (c_X12_keepsRow hty v0 k_v0 σ_2 hq_3) mv_X12_keepsRow ml_X12_163 k_v0 rfl (Nat.le_of_ble_eq_true rfl) rfl (Nat.le_of_ble_eq_true rfl) E d_X12_records_94 rfl ?_
    cases h
    exact wa_vret E d_X12_records_97
  · replace h := kf_iff c_1 h
    refine wa_aload_n 0 rfl E d_X12_records_57 ?_
    refine wa_getR fl_X12_128 k_v0 rfl E d_X12_records_58 ?_
    refine wa_bipush 70 bp_70 E d_X12_records_61 ?_
    refine wa_aload_n 0 rfl E d_X12_records_63 ?_
    refine wa_getI fl_X12_251 k_v0 rfl E d_X12_records_64 ?_
    refine wa_imul E d_X12_records_67 ?_
    refine wa_iload_n 1 rfl E d_X12_records_68 ?_
    refine wa_iadd E d_X12_records_69 ?_
    refine wa_aload_n 0 rfl E d_X12_records_70 ?_
    refine wa_getR fl_X12_119 k_v0 rfl E d_X12_records_71 ?_
    refine wa_iload_n 1 rfl E d_X12_records_74 ?_
    obtain ⟨g_4, h⟩ := kf_gd h
    refine wa_iald (kf_wtf hty 51 49 k_v0 (by decide) rfl) g_4 E d_X12_records_75 ?_
    obtain ⟨g_5, h⟩ := kf_gd h
    obtain ⟨σ_6, eσ_6, h⟩ := kf_lte h
    refine wa_iast (kf_wtf hty 57 49 k_v0 (by decide) rfl) g_5 E d_X12_records_76 eσ_6 ?_
    obtain ⟨v1_7, ev1_7, h⟩ := kf_lte h
    refine wa_iinc (lv' := [(1, .int v1_7), (0, .ref (kf_ad G v0))]) v1_7 1 rfl (kf_inc ic_1 ev1_7) (by decide) rfl E d_X12_records_77 ?_
    refine wa_goto E d_X12_records_80 ?_
    refine wa_sub [1, 0] rfl ?_
    exact hrec51 v0 v1_7 k_v0 σ_6 h
theorem b_X12_records_51 {X : kf_X} {G : kf_G} {q : kf_St} (E : kf_ok X G cX12_records RX12 2 none (2)) (hty : kf_wt G) : ∀ (N : Nat) (v0 : Nat) (v1 : Int32) (k_v0 : kf_kd G v0 = 13) (σ : kf_St) (_ : f_X12_records_51 N v0 v1 σ = some q), kf_WA X G 2 (kf_Q X G none q) 51 [(0, .ref (kf_ad G v0)), (1, .int v1)] [] σ
  | 0, _, _, _, _, h => by cases h
  | N + 1, v0, v1, k_v0, σ, h => b_X12_records_51_s _ E hty (b_X12_records_51 E hty N) v0 v1 k_v0 σ h
def f_X12_records_49 (v0 : Nat) (σ : kf_St) : Option kf_St :=
  f_X12_records_51 kf_F v0 0 σ
set_option maxRecDepth 100000 in
set_option maxHeartbeats 4000000 in
theorem b_X12_records_49 {X : kf_X} {G : kf_G} {q : kf_St} (E : kf_ok X G cX12_records RX12 2 none (2)) (hty : kf_wt G) (v0 : Nat) (k_v0 : kf_kd G v0 = 13) (σ : kf_St) (h : f_X12_records_49 v0 σ = some q) : kf_WA X G 2 (kf_Q X G none q) 49 [(0, .ref (kf_ad G v0))] [] σ := by
  unfold f_X12_records_49 at h
  refine wa_iconst 0 ic_0 E d_X12_records_49 ?_
  refine wa_istore_n (lv' := [(1, .int 0), (0, .ref (kf_ad G v0))]) rfl (by decide) rfl E d_X12_records_50 ?_
  refine wa_sub [1, 0] rfl ?_
  exact b_X12_records_51 E hty kf_F v0 0 k_v0 σ h
def f_X12_records_11_s (rec11 : Nat → Int32 → kf_St → Option kf_St) (v0 : Nat) (v1 : Int32) (σ : kf_St) : Option kf_St :=
  if 2730 ≤ v1 then
    kf_lt (kf_wi σ v0 56 ((σ.1 v0 56) - 1)) fun σ_2 =>
    f_X12_records_49 v0 σ_2
  else
    if kf_ix (v1 + 70) (kf_ln (kf_rf v0 57)) = true then
    if kf_ix v1 (kf_ln (kf_rf v0 57)) = true then
    kf_lt (kf_wi σ (kf_rf v0 57) (Int32.toNatClampNeg v1) (σ.1 (kf_rf v0 57) (Int32.toNatClampNeg (v1 + 70)))) fun σ_5 =>
    kf_lt (v1 + 1) fun v1_6 =>
    rec11 v0 v1_6 σ_5
    else none
    else none
def f_X12_records_11 : Nat → Nat → Int32 → kf_St → Option kf_St
  | 0, _, _, _ => none
  | n + 1, v0, v1, σ => f_X12_records_11_s (f_X12_records_11 n) v0 v1 σ
set_option maxRecDepth 100000 in
set_option maxHeartbeats 4000000 in
theorem b_X12_records_11_s {X : kf_X} {G : kf_G} (rec11 : Nat → Int32 → kf_St → Option kf_St) {q : kf_St} (E : kf_ok X G cX12_records RX12 2 none (2)) (hty : kf_wt G) (hrec11 : ∀ (v0 : Nat) (v1 : Int32) (k_v0 : kf_kd G v0 = 13) (σ : kf_St), rec11 v0 v1 σ = some q → kf_WA X G 2 (kf_Q X G none q) 11 [(0, .ref (kf_ad G v0)), (1, .int v1)] [] σ) (v0 : Nat) (v1 : Int32) (k_v0 : kf_kd G v0 = 13) (σ : kf_St) (h : f_X12_records_11_s rec11 v0 v1 σ = some q) : kf_WA X G 2 (kf_Q X G none q) 11 [(0, .ref (kf_ad G v0)), (1, .int v1)] [] σ := by
  unfold f_X12_records_11_s at h
  refine wa_iload_n 1 rfl E d_X12_records_11 ?_
  refine wa_sipush 2730 sp_2730 E d_X12_records_12 ?_
  refine wa_icmp_ge E d_X12_records_15 (fun c_1 => ?_) (fun c_1 => ?_)
  · replace h := kf_ift c_1 h
    refine wa_aload_n 0 rfl E d_X12_records_39 ?_
    refine wa_dup rfl E d_X12_records_40 ?_
    refine wa_getI fl_X12_251 k_v0 rfl E d_X12_records_41 ?_
    refine wa_iconst 1 ic_1 E d_X12_records_44 ?_
    refine wa_isub E d_X12_records_45 ?_
    obtain ⟨σ_2, eσ_2, h⟩ := kf_lte h
    refine wa_putI fl_X12_251 fp_12_56 k_v0 rfl (by decide) rfl rfl E d_X12_records_46 eσ_2 ?_
    refine wa_sub [0] rfl ?_
    exact b_X12_records_49 E hty v0 k_v0 σ_2 h
  · replace h := kf_iff c_1 h
    refine wa_aload_n 0 rfl E d_X12_records_18 ?_
    refine wa_getR fl_X12_128 k_v0 rfl E d_X12_records_19 ?_
    refine wa_iload_n 1 rfl E d_X12_records_22 ?_
    refine wa_aload_n 0 rfl E d_X12_records_23 ?_
    refine wa_getR fl_X12_128 k_v0 rfl E d_X12_records_24 ?_
    refine wa_iload_n 1 rfl E d_X12_records_27 ?_
    refine wa_bipush 70 bp_70 E d_X12_records_28 ?_
    refine wa_iadd E d_X12_records_30 ?_
    obtain ⟨g_3, h⟩ := kf_gd h
    refine wa_iald (kf_wtf hty 57 49 k_v0 (by decide) rfl) g_3 E d_X12_records_31 ?_
    obtain ⟨g_4, h⟩ := kf_gd h
    obtain ⟨σ_5, eσ_5, h⟩ := kf_lte h
    refine wa_iast (kf_wtf hty 57 49 k_v0 (by decide) rfl) g_4 E d_X12_records_32 eσ_5 ?_
    obtain ⟨v1_6, ev1_6, h⟩ := kf_lte h
    refine wa_iinc (lv' := [(1, .int v1_6), (0, .ref (kf_ad G v0))]) v1_6 1 rfl (kf_inc ic_1 ev1_6) (by decide) rfl E d_X12_records_33 ?_
    refine wa_goto E d_X12_records_36 ?_
    refine wa_sub [1, 0] rfl ?_
    exact hrec11 v0 v1_6 k_v0 σ_5 h
theorem b_X12_records_11 {X : kf_X} {G : kf_G} {q : kf_St} (E : kf_ok X G cX12_records RX12 2 none (2)) (hty : kf_wt G) : ∀ (N : Nat) (v0 : Nat) (v1 : Int32) (k_v0 : kf_kd G v0 = 13) (σ : kf_St) (_ : f_X12_records_11 N v0 v1 σ = some q), kf_WA X G 2 (kf_Q X G none q) 11 [(0, .ref (kf_ad G v0)), (1, .int v1)] [] σ
  | 0, _, _, _, _, h => by cases h
  | N + 1, v0, v1, k_v0, σ, h => b_X12_records_11_s _ E hty (b_X12_records_11 E hty N) v0 v1 k_v0 σ h
def f_X12_records (v0 : Nat) (σ : kf_St) : Option kf_St :=
  if (σ.1 v0 56) = 40 then
    f_X12_records_11 kf_F v0 0 σ
  else
    f_X12_records_49 v0 σ
set_option maxRecDepth 100000 in
set_option maxHeartbeats 4000000 in
theorem c_X12_records {G : kf_G} (hty : kf_wt G) (v0 : Nat) (k_v0 : kf_kd G v0 = 13) (σ : kf_St) {q : kf_St} (h : f_X12_records v0 σ = some q) : kf_Ct (2) yX12_records cX12_records 2 none G [.ref (kf_ad G v0)] σ none q := by
  refine kf_Ct.of hty.1 (lv := [(0, .ref (kf_ad G v0))]) (by decide +kernel) rfl (Nat.le_of_ble_eq_true rfl) (fun X E => ?_)
  unfold f_X12_records at h
  refine wa_aload_n 0 rfl E d_X12_records_0 ?_
  refine wa_getI fl_X12_251 k_v0 rfl E d_X12_records_1 ?_
  refine wa_bipush 40 bp_40 E d_X12_records_4 ?_
  refine wa_icmp_ne E d_X12_records_6 (fun c_1 => ?_) (fun c_1 => ?_)
  · replace h := kf_iff c_1 h
    exact b_X12_records_49 E hty v0 k_v0 σ h
  · replace h := kf_ift c_1 h
    refine wa_iconst 0 ic_0 E d_X12_records_9 ?_
    refine wa_istore_n (lv' := [(1, .int 0), (0, .ref (kf_ad G v0))]) rfl (by decide) rfl E d_X12_records_10 ?_
    refine wa_sub [1, 0] rfl ?_
    exact b_X12_records_11 E hty kf_F v0 0 k_v0 σ h
/-! X12_lift -/
theorem d_X12_lift_0 : kf_dq cX12_lift 0 1 1 (.aload_n 0) := ⟨by decide +kernel, rfl⟩
theorem d_X12_lift_1 : kf_dq cX12_lift 1 2 1 (.iload_n 1) := ⟨by decide +kernel, rfl⟩
theorem d_X12_lift_2 : kf_dq cX12_lift 2 3 1 (.iload_n 2) := ⟨by decide +kernel, rfl⟩
theorem d_X12_lift_3 : kf_dq cX12_lift 3 6 3 (.invokevirtual 399) := ⟨by decide +kernel, rfl⟩
theorem d_X12_lift_6 : kf_dj cX12_lift 6 9 11 (.ifCond .ne) := ⟨5, by decide +kernel, rfl, by decide⟩
theorem d_X12_lift_9 : kf_dq cX12_lift 9 10 1 (.iconst 0) := ⟨by decide +kernel, rfl⟩
theorem d_X12_lift_10 : kf_dq cX12_lift 10 11 1 (.ireturn) := ⟨by decide +kernel, rfl⟩
theorem d_X12_lift_11 : kf_dq cX12_lift 11 12 1 (.aload_n 0) := ⟨by decide +kernel, rfl⟩
theorem d_X12_lift_12 : kf_dq cX12_lift 12 15 3 (.invokevirtual 323) := ⟨by decide +kernel, rfl⟩
theorem d_X12_lift_15 : kf_dq cX12_lift 15 16 1 (.aload_n 0) := ⟨by decide +kernel, rfl⟩
theorem d_X12_lift_16 : kf_dq cX12_lift 16 17 1 (.iload_n 1) := ⟨by decide +kernel, rfl⟩
theorem d_X12_lift_17 : kf_dq cX12_lift 17 18 1 (.iload_n 2) := ⟨by decide +kernel, rfl⟩
theorem d_X12_lift_18 : kf_dq cX12_lift 18 21 3 (.invokevirtual 374) := ⟨by decide +kernel, rfl⟩
theorem d_X12_lift_21 : kf_dq cX12_lift 21 22 1 (.aload_n 0) := ⟨by decide +kernel, rfl⟩
theorem d_X12_lift_22 : kf_dq cX12_lift 22 25 3 (.invokevirtual 402) := ⟨by decide +kernel, rfl⟩
theorem d_X12_lift_25 : kf_dq cX12_lift 25 26 1 (.iconst 1) := ⟨by decide +kernel, rfl⟩
theorem d_X12_lift_26 : kf_dq cX12_lift 26 27 1 (.ireturn) := ⟨by decide +kernel, rfl⟩
def f_X12_lift (v0 : Nat) (v1 : Int32) (v2 : Int32) (σ : kf_St) : Option (Int32 × kf_St) :=
  (f_X12_areBoth v0 v1 v2 σ).bind fun q_1 =>
  if q_1.1 = 0 then
    some (0, q_1.2)
  else
    (f_X12_copies v0 q_1.2).bind fun q_3 =>
    (f_X12_lifted v0 v1 v2 q_3).bind fun q_4 =>
    (f_X12_records v0 q_4).bind fun q_5 =>
    some (1, q_5)
set_option maxRecDepth 100000 in
set_option maxHeartbeats 4000000 in
theorem c_X12_lift {G : kf_G} (hty : kf_wt G) (v0 : Nat) (v1 : Int32) (v2 : Int32) (k_v0 : kf_kd G v0 = 13) (σ : kf_St) {q : (Int32 × kf_St)} (h : f_X12_lift v0 v1 v2 σ = some q) : kf_Ct (5) yX12_lift cX12_lift 3 (some .boolean) G [.ref (kf_ad G v0), .int v1, .int v2] σ (some (.int q.1)) q.2 := by
  refine kf_Ct.of hty.1 (lv := [(0, .ref (kf_ad G v0)), (1, .int v1), (2, .int v2)]) (by decide +kernel) rfl (Nat.le_of_ble_eq_true rfl) (fun X E => ?_)
  unfold f_X12_lift at h
  refine wa_aload_n 0 rfl E d_X12_lift_0 ?_
  refine wa_iload_n 1 rfl E d_X12_lift_1 ?_
  refine wa_iload_n 2 rfl E d_X12_lift_2 ?_
  obtain ⟨q_1, hq_1, h⟩ := kf_bd h
  refine wa_callV (st2 := [.int q_1.1]) (c_X12_areBoth hty v0 v1 v2 k_v0 σ hq_1) mv_X12_areBoth ml_X12_399 k_v0 rfl (Nat.le_of_ble_eq_true rfl) rfl (Nat.le_of_ble_eq_true rfl) E d_X12_lift_3 rfl ?_
  refine wa_if_ne E d_X12_lift_6 (fun c_2 => ?_) (fun c_2 => ?_)
  · replace h := kf_iff c_2 h
    refine wa_aload_n 0 rfl E d_X12_lift_11 ?_
    obtain ⟨q_3, hq_3, h⟩ := kf_bd h
    refine wa_callV (st2 := []) (c_X12_copies hty v0 k_v0 q_1.2 hq_3) mv_X12_copies ml_X12_323 k_v0 rfl (Nat.le_of_ble_eq_true rfl) rfl (Nat.le_of_ble_eq_true rfl) E d_X12_lift_12 rfl ?_
    refine wa_aload_n 0 rfl E d_X12_lift_15 ?_
    refine wa_iload_n 1 rfl E d_X12_lift_16 ?_
    refine wa_iload_n 2 rfl E d_X12_lift_17 ?_
    obtain ⟨q_4, hq_4, h⟩ := kf_bd h
    refine wa_callV (st2 := []) (c_X12_lifted hty v0 v1 v2 k_v0 q_3 hq_4) mv_X12_lifted ml_X12_374 k_v0 rfl (Nat.le_of_ble_eq_true rfl) rfl (Nat.le_of_ble_eq_true rfl) E d_X12_lift_18 rfl ?_
    refine wa_aload_n 0 rfl E d_X12_lift_21 ?_
    obtain ⟨q_5, hq_5, h⟩ := kf_bd h
    refine wa_callV (st2 := []) (c_X12_records hty v0 k_v0 q_4 hq_5) mv_X12_records ml_X12_402 k_v0 rfl (Nat.le_of_ble_eq_true rfl) rfl (Nat.le_of_ble_eq_true rfl) E d_X12_lift_22 rfl ?_
    refine wa_iconst 1 ic_1 E d_X12_lift_25 ?_
    cases h
    exact wa_zret kf_z1 E d_X12_lift_26
  · replace h := kf_ift c_2 h
    refine wa_iconst 0 ic_0 E d_X12_lift_9 ?_
    cases h
    exact wa_zret kf_z0 E d_X12_lift_10
/-! X12_polish -/
theorem d_X12_polish_0 : kf_dq cX12_polish 0 1 1 (.aload_n 0) := ⟨by decide +kernel, rfl⟩
theorem d_X12_polish_1 : kf_dq cX12_polish 1 2 1 (.iload_n 1) := ⟨by decide +kernel, rfl⟩
theorem d_X12_polish_2 : kf_dq cX12_polish 2 5 3 (.invokevirtual 387) := ⟨by decide +kernel, rfl⟩
theorem d_X12_polish_5 : kf_dj cX12_polish 5 8 10 (.ifCond .ne) := ⟨5, by decide +kernel, rfl, by decide⟩
theorem d_X12_polish_8 : kf_dq cX12_polish 8 9 1 (.iconst 0) := ⟨by decide +kernel, rfl⟩
theorem d_X12_polish_9 : kf_dq cX12_polish 9 10 1 (.ireturn) := ⟨by decide +kernel, rfl⟩
theorem d_X12_polish_10 : kf_dq cX12_polish 10 11 1 (.aload_n 0) := ⟨by decide +kernel, rfl⟩
theorem d_X12_polish_11 : kf_dq cX12_polish 11 14 3 (.invokevirtual 323) := ⟨by decide +kernel, rfl⟩
theorem d_X12_polish_14 : kf_dq cX12_polish 14 15 1 (.aload_n 0) := ⟨by decide +kernel, rfl⟩
theorem d_X12_polish_15 : kf_dq cX12_polish 15 16 1 (.iload_n 1) := ⟨by decide +kernel, rfl⟩
theorem d_X12_polish_16 : kf_dq cX12_polish 16 19 3 (.invokevirtual 405) := ⟨by decide +kernel, rfl⟩
theorem d_X12_polish_19 : kf_dq cX12_polish 19 20 1 (.aload_n 0) := ⟨by decide +kernel, rfl⟩
theorem d_X12_polish_20 : kf_dq cX12_polish 20 23 3 (.invokevirtual 402) := ⟨by decide +kernel, rfl⟩
theorem d_X12_polish_23 : kf_dq cX12_polish 23 24 1 (.iconst 1) := ⟨by decide +kernel, rfl⟩
theorem d_X12_polish_24 : kf_dq cX12_polish 24 25 1 (.ireturn) := ⟨by decide +kernel, rfl⟩
def f_X12_polish (v0 : Nat) (v1 : Int32) (σ : kf_St) : Option (Int32 × kf_St) :=
  (f_X12_isDoor v0 v1 σ).bind fun q_1 =>
  if q_1.1 = 0 then
    some (0, q_1.2)
  else
    (f_X12_copies v0 q_1.2).bind fun q_3 =>
    (f_X12_polished v0 v1 q_3).bind fun q_4 =>
    (f_X12_records v0 q_4).bind fun q_5 =>
    some (1, q_5)
set_option maxRecDepth 100000 in
set_option maxHeartbeats 4000000 in
theorem c_X12_polish {G : kf_G} (hty : kf_wt G) (v0 : Nat) (v1 : Int32) (k_v0 : kf_kd G v0 = 13) (σ : kf_St) {q : (Int32 × kf_St)} (h : f_X12_polish v0 v1 σ = some q) : kf_Ct (3) yX12_polish cX12_polish 2 (some .boolean) G [.ref (kf_ad G v0), .int v1] σ (some (.int q.1)) q.2 := by
  refine kf_Ct.of hty.1 (lv := [(0, .ref (kf_ad G v0)), (1, .int v1)]) (by decide +kernel) rfl (Nat.le_of_ble_eq_true rfl) (fun X E => ?_)
  unfold f_X12_polish at h
  refine wa_aload_n 0 rfl E d_X12_polish_0 ?_
  refine wa_iload_n 1 rfl E d_X12_polish_1 ?_
  obtain ⟨q_1, hq_1, h⟩ := kf_bd h
  refine wa_callV (st2 := [.int q_1.1]) (c_X12_isDoor hty v0 v1 k_v0 σ hq_1) mv_X12_isDoor ml_X12_387 k_v0 rfl (Nat.le_of_ble_eq_true rfl) rfl (Nat.le_of_ble_eq_true rfl) E d_X12_polish_2 rfl ?_
  refine wa_if_ne E d_X12_polish_5 (fun c_2 => ?_) (fun c_2 => ?_)
  · replace h := kf_iff c_2 h
    refine wa_aload_n 0 rfl E d_X12_polish_10 ?_
    obtain ⟨q_3, hq_3, h⟩ := kf_bd h
    refine wa_callV (st2 := []) (c_X12_copies hty v0 k_v0 q_1.2 hq_3) mv_X12_copies ml_X12_323 k_v0 rfl (Nat.le_of_ble_eq_true rfl) rfl (Nat.le_of_ble_eq_true rfl) E d_X12_polish_11 rfl ?_
    refine wa_aload_n 0 rfl E d_X12_polish_14 ?_
    refine wa_iload_n 1 rfl E d_X12_polish_15 ?_
    obtain ⟨q_4, hq_4, h⟩ := kf_bd h
    refine wa_callV (st2 := []) (c_X12_polished hty v0 v1 k_v0 q_3 hq_4) mv_X12_polished ml_X12_405 k_v0 rfl (Nat.le_of_ble_eq_true rfl) rfl (Nat.le_of_ble_eq_true rfl) E d_X12_polish_16 rfl ?_
    refine wa_aload_n 0 rfl E d_X12_polish_19 ?_
    obtain ⟨q_5, hq_5, h⟩ := kf_bd h
    refine wa_callV (st2 := []) (c_X12_records hty v0 k_v0 q_4 hq_5) mv_X12_records ml_X12_402 k_v0 rfl (Nat.le_of_ble_eq_true rfl) rfl (Nat.le_of_ble_eq_true rfl) E d_X12_polish_20 rfl ?_
    refine wa_iconst 1 ic_1 E d_X12_polish_23 ?_
    cases h
    exact wa_zret kf_z1 E d_X12_polish_24
  · replace h := kf_ift c_2 h
    refine wa_iconst 0 ic_0 E d_X12_polish_8 ?_
    cases h
    exact wa_zret kf_z0 E d_X12_polish_9
/-! X12_isPart -/
theorem d_X12_isPart_0 : kf_dq cX12_isPart 0 1 1 (.iload_n 0) := ⟨by decide +kernel, rfl⟩
theorem d_X12_isPart_1 : kf_dq cX12_isPart 1 2 1 (.iconst 0) := ⟨by decide +kernel, rfl⟩
theorem d_X12_isPart_2 : kf_dq cX12_isPart 2 3 1 (.iconst 3) := ⟨by decide +kernel, rfl⟩
theorem d_X12_isPart_3 : kf_dq cX12_isPart 3 6 3 (.invokestatic 313) := ⟨by decide +kernel, rfl⟩
theorem d_X12_isPart_6 : kf_dq cX12_isPart 6 7 1 (.ireturn) := ⟨by decide +kernel, rfl⟩
def f_X12_isPart (v0 : Int32) (σ : kf_St) : Option (Int32 × kf_St) :=
  (f_X12_in v0 0 3 σ).bind fun q_1 =>
  if kf_zb q_1.1 = true then some (q_1.1, q_1.2) else none
set_option maxRecDepth 100000 in
set_option maxHeartbeats 4000000 in
theorem c_X12_isPart {G : kf_G} (hty : kf_wt G) (v0 : Int32) (σ : kf_St) {q : (Int32 × kf_St)} (h : f_X12_isPart v0 σ = some q) : kf_Ct (2) yX12_isPart cX12_isPart 1 (some .boolean) G [.int v0] σ (some (.int q.1)) q.2 := by
  refine kf_Ct.of hty.1 (lv := [(0, .int v0)]) (by decide +kernel) rfl (Nat.le_of_ble_eq_true rfl) (fun X E => ?_)
  unfold f_X12_isPart at h
  refine wa_iload_n 0 rfl E d_X12_isPart_0 ?_
  refine wa_iconst 0 ic_0 E d_X12_isPart_1 ?_
  refine wa_iconst 3 ic_3 E d_X12_isPart_2 ?_
  obtain ⟨q_1, hq_1, h⟩ := kf_bd h
  refine wa_callS (st2 := [.int q_1.1]) (c_X12_in hty v0 0 3 σ hq_1) mt_X12_in ml_X12_313 rfl (Nat.le_of_ble_eq_true rfl) rfl (Nat.le_of_ble_eq_true rfl) E d_X12_isPart_3 rfl ?_
  obtain ⟨g_2, h⟩ := kf_gd h
  cases h
  exact wa_zret (kf_zbn g_2) E d_X12_isPart_6
/-! X12_file -/
theorem d_X12_file_0 : kf_dq cX12_file 0 1 1 (.aload_n 0) := ⟨by decide +kernel, rfl⟩
theorem d_X12_file_1 : kf_dq cX12_file 1 2 1 (.iload_n 1) := ⟨by decide +kernel, rfl⟩
theorem d_X12_file_2 : kf_dq cX12_file 2 5 3 (.invokevirtual 387) := ⟨by decide +kernel, rfl⟩
theorem d_X12_file_5 : kf_dj cX12_file 5 8 28 (.ifCond .eq) := ⟨23, by decide +kernel, rfl, by decide⟩
theorem d_X12_file_8 : kf_dq cX12_file 8 9 1 (.iload_n 2) := ⟨by decide +kernel, rfl⟩
theorem d_X12_file_9 : kf_dq cX12_file 9 12 3 (.invokestatic 408) := ⟨by decide +kernel, rfl⟩
theorem d_X12_file_12 : kf_dj cX12_file 12 15 28 (.ifCond .eq) := ⟨16, by decide +kernel, rfl, by decide⟩
theorem d_X12_file_15 : kf_dq cX12_file 15 16 1 (.aload_n 0) := ⟨by decide +kernel, rfl⟩
theorem d_X12_file_16 : kf_dq cX12_file 16 19 3 (.getfield 119) := ⟨by decide +kernel, rfl⟩
theorem d_X12_file_19 : kf_dq cX12_file 19 20 1 (.iconst 4) := ⟨by decide +kernel, rfl⟩
theorem d_X12_file_20 : kf_dq cX12_file 20 21 1 (.iload_n 1) := ⟨by decide +kernel, rfl⟩
theorem d_X12_file_21 : kf_dq cX12_file 21 22 1 (.imul) := ⟨by decide +kernel, rfl⟩
theorem d_X12_file_22 : kf_dq cX12_file 22 23 1 (.iload_n 2) := ⟨by decide +kernel, rfl⟩
theorem d_X12_file_23 : kf_dq cX12_file 23 24 1 (.iadd) := ⟨by decide +kernel, rfl⟩
theorem d_X12_file_24 : kf_dq cX12_file 24 25 1 (.iaload) := ⟨by decide +kernel, rfl⟩
theorem d_X12_file_25 : kf_dj cX12_file 25 28 30 (.ifCond .ne) := ⟨5, by decide +kernel, rfl, by decide⟩
theorem d_X12_file_28 : kf_dq cX12_file 28 29 1 (.iconst 0) := ⟨by decide +kernel, rfl⟩
theorem d_X12_file_29 : kf_dq cX12_file 29 30 1 (.ireturn) := ⟨by decide +kernel, rfl⟩
theorem d_X12_file_30 : kf_dq cX12_file 30 31 1 (.aload_n 0) := ⟨by decide +kernel, rfl⟩
theorem d_X12_file_31 : kf_dq cX12_file 31 34 3 (.invokevirtual 323) := ⟨by decide +kernel, rfl⟩
theorem d_X12_file_34 : kf_dq cX12_file 34 35 1 (.aload_n 0) := ⟨by decide +kernel, rfl⟩
theorem d_X12_file_35 : kf_dq cX12_file 35 38 3 (.getfield 122) := ⟨by decide +kernel, rfl⟩
theorem d_X12_file_38 : kf_dq cX12_file 38 39 1 (.iconst 4) := ⟨by decide +kernel, rfl⟩
theorem d_X12_file_39 : kf_dq cX12_file 39 40 1 (.iload_n 1) := ⟨by decide +kernel, rfl⟩
theorem d_X12_file_40 : kf_dq cX12_file 40 41 1 (.imul) := ⟨by decide +kernel, rfl⟩
theorem d_X12_file_41 : kf_dq cX12_file 41 42 1 (.iload_n 2) := ⟨by decide +kernel, rfl⟩
theorem d_X12_file_42 : kf_dq cX12_file 42 43 1 (.iadd) := ⟨by decide +kernel, rfl⟩
theorem d_X12_file_43 : kf_dq cX12_file 43 44 1 (.iconst 0) := ⟨by decide +kernel, rfl⟩
theorem d_X12_file_44 : kf_dq cX12_file 44 45 1 (.iastore) := ⟨by decide +kernel, rfl⟩
theorem d_X12_file_45 : kf_dq cX12_file 45 46 1 (.aload_n 0) := ⟨by decide +kernel, rfl⟩
theorem d_X12_file_46 : kf_dq cX12_file 46 49 3 (.invokevirtual 402) := ⟨by decide +kernel, rfl⟩
theorem d_X12_file_49 : kf_dq cX12_file 49 50 1 (.iconst 1) := ⟨by decide +kernel, rfl⟩
theorem d_X12_file_50 : kf_dq cX12_file 50 51 1 (.ireturn) := ⟨by decide +kernel, rfl⟩
def f_X12_file (v0 : Nat) (v1 : Int32) (v2 : Int32) (σ : kf_St) : Option (Int32 × kf_St) :=
  (f_X12_isDoor v0 v1 σ).bind fun q_1 =>
  if q_1.1 = 0 then
    some (0, q_1.2)
  else
    (f_X12_isPart v2 q_1.2).bind fun q_3 =>
    if q_3.1 = 0 then
      some (0, q_3.2)
    else
      if kf_ix ((4 * v1) + v2) (kf_ln (kf_rf v0 51)) = true then
      if (q_3.2.1 (kf_rf v0 51) (Int32.toNatClampNeg ((4 * v1) + v2))) = 0 then
        some (0, q_3.2)
      else
        (f_X12_copies v0 q_3.2).bind fun q_7 =>
        if kf_ix ((4 * v1) + v2) (kf_ln (kf_rf v0 52)) = true then
        kf_lt (kf_wi q_7 (kf_rf v0 52) (Int32.toNatClampNeg ((4 * v1) + v2)) 0) fun σ_9 =>
        (f_X12_records v0 σ_9).bind fun q_10 =>
        some (1, q_10)
        else none
      else none
set_option maxRecDepth 100000 in
set_option maxHeartbeats 4000000 in
theorem c_X12_file {G : kf_G} (hty : kf_wt G) (v0 : Nat) (v1 : Int32) (v2 : Int32) (k_v0 : kf_kd G v0 = 13) (σ : kf_St) {q : (Int32 × kf_St)} (h : f_X12_file v0 v1 v2 σ = some q) : kf_Ct (3) yX12_file cX12_file 3 (some .boolean) G [.ref (kf_ad G v0), .int v1, .int v2] σ (some (.int q.1)) q.2 := by
  refine kf_Ct.of hty.1 (lv := [(0, .ref (kf_ad G v0)), (1, .int v1), (2, .int v2)]) (by decide +kernel) rfl (Nat.le_of_ble_eq_true rfl) (fun X E => ?_)
  unfold f_X12_file at h
  refine wa_aload_n 0 rfl E d_X12_file_0 ?_
  refine wa_iload_n 1 rfl E d_X12_file_1 ?_
  obtain ⟨q_1, hq_1, h⟩ := kf_bd h
  refine wa_callV (st2 := [.int q_1.1]) (c_X12_isDoor hty v0 v1 k_v0 σ hq_1) mv_X12_isDoor ml_X12_387 k_v0 rfl (Nat.le_of_ble_eq_true rfl) rfl (Nat.le_of_ble_eq_true rfl) E d_X12_file_2 rfl ?_
  refine wa_if_eq E d_X12_file_5 (fun c_2 => ?_) (fun c_2 => ?_)
  · replace h := kf_ift c_2 h
    refine wa_iconst 0 ic_0 E d_X12_file_28 ?_
    cases h
    exact wa_zret kf_z0 E d_X12_file_29
  · replace h := kf_iff c_2 h
    refine wa_iload_n 2 rfl E d_X12_file_8 ?_
    obtain ⟨q_3, hq_3, h⟩ := kf_bd h
    refine wa_callS (st2 := [.int q_3.1]) (c_X12_isPart hty v2 q_1.2 hq_3) mt_X12_isPart ml_X12_408 rfl (Nat.le_of_ble_eq_true rfl) rfl (Nat.le_of_ble_eq_true rfl) E d_X12_file_9 rfl ?_
    refine wa_if_eq E d_X12_file_12 (fun c_4 => ?_) (fun c_4 => ?_)
    · replace h := kf_ift c_4 h
      refine wa_iconst 0 ic_0 E d_X12_file_28 ?_
      cases h
      exact wa_zret kf_z0 E d_X12_file_29
    · replace h := kf_iff c_4 h
      refine wa_aload_n 0 rfl E d_X12_file_15 ?_
      refine wa_getR fl_X12_119 k_v0 rfl E d_X12_file_16 ?_
      refine wa_iconst 4 ic_4 E d_X12_file_19 ?_
      refine wa_iload_n 1 rfl E d_X12_file_20 ?_
      refine wa_imul E d_X12_file_21 ?_
      refine wa_iload_n 2 rfl E d_X12_file_22 ?_
      refine wa_iadd E d_X12_file_23 ?_
      obtain ⟨g_5, h⟩ := kf_gd h
      refine wa_iald (kf_wtf hty 51 49 k_v0 (by decide) rfl) g_5 E d_X12_file_24 ?_
      refine wa_if_ne E d_X12_file_25 (fun c_6 => ?_) (fun c_6 => ?_)
      · replace h := kf_iff c_6 h
        refine wa_aload_n 0 rfl E d_X12_file_30 ?_
        obtain ⟨q_7, hq_7, h⟩ := kf_bd h
        refine wa_callV (st2 := []) (c_X12_copies hty v0 k_v0 q_3.2 hq_7) mv_X12_copies ml_X12_323 k_v0 rfl (Nat.le_of_ble_eq_true rfl) rfl (Nat.le_of_ble_eq_true rfl) E d_X12_file_31 rfl ?_
        refine wa_aload_n 0 rfl E d_X12_file_34 ?_
        refine wa_getR fl_X12_122 k_v0 rfl E d_X12_file_35 ?_
        refine wa_iconst 4 ic_4 E d_X12_file_38 ?_
        refine wa_iload_n 1 rfl E d_X12_file_39 ?_
        refine wa_imul E d_X12_file_40 ?_
        refine wa_iload_n 2 rfl E d_X12_file_41 ?_
        refine wa_iadd E d_X12_file_42 ?_
        refine wa_iconst 0 ic_0 E d_X12_file_43 ?_
        obtain ⟨g_8, h⟩ := kf_gd h
        obtain ⟨σ_9, eσ_9, h⟩ := kf_lte h
        refine wa_iast (kf_wtf hty 52 49 k_v0 (by decide) rfl) g_8 E d_X12_file_44 eσ_9 ?_
        refine wa_aload_n 0 rfl E d_X12_file_45 ?_
        obtain ⟨q_10, hq_10, h⟩ := kf_bd h
        refine wa_callV (st2 := []) (c_X12_records hty v0 k_v0 σ_9 hq_10) mv_X12_records ml_X12_402 k_v0 rfl (Nat.le_of_ble_eq_true rfl) rfl (Nat.le_of_ble_eq_true rfl) E d_X12_file_46 rfl ?_
        refine wa_iconst 1 ic_1 E d_X12_file_49 ?_
        cases h
        exact wa_zret kf_z1 E d_X12_file_50
      · replace h := kf_ift c_6 h
        refine wa_iconst 0 ic_0 E d_X12_file_28 ?_
        cases h
        exact wa_zret kf_z0 E d_X12_file_29
/-! X12_keep -/
theorem d_X12_keep_0 : kf_dq cX12_keep 0 1 1 (.aload_n 0) := ⟨by decide +kernel, rfl⟩
theorem d_X12_keep_1 : kf_dq cX12_keep 1 2 1 (.iload_n 1) := ⟨by decide +kernel, rfl⟩
theorem d_X12_keep_2 : kf_dq cX12_keep 2 5 3 (.invokevirtual 396) := ⟨by decide +kernel, rfl⟩
theorem d_X12_keep_5 : kf_dj cX12_keep 5 8 30 (.ifCond .eq) := ⟨25, by decide +kernel, rfl, by decide⟩
theorem d_X12_keep_8 : kf_dq cX12_keep 8 9 1 (.aload_n 0) := ⟨by decide +kernel, rfl⟩
theorem d_X12_keep_9 : kf_dq cX12_keep 9 12 3 (.getfield 119) := ⟨by decide +kernel, rfl⟩
theorem d_X12_keep_12 : kf_dq cX12_keep 12 14 2 (.bipush 54) := ⟨by decide +kernel, rfl⟩
theorem d_X12_keep_14 : kf_dq cX12_keep 14 15 1 (.iload_n 1) := ⟨by decide +kernel, rfl⟩
theorem d_X12_keep_15 : kf_dq cX12_keep 15 16 1 (.iadd) := ⟨by decide +kernel, rfl⟩
theorem d_X12_keep_16 : kf_dq cX12_keep 16 17 1 (.iaload) := ⟨by decide +kernel, rfl⟩
theorem d_X12_keep_17 : kf_dq cX12_keep 17 18 1 (.iconst 1) := ⟨by decide +kernel, rfl⟩
theorem d_X12_keep_18 : kf_dj cX12_keep 18 21 25 (.if_icmp .ne) := ⟨7, by decide +kernel, rfl, by decide⟩
theorem d_X12_keep_21 : kf_dq cX12_keep 21 22 1 (.iconst 1) := ⟨by decide +kernel, rfl⟩
theorem d_X12_keep_22 : kf_dj cX12_keep 22 25 26 .goto := ⟨4, by decide +kernel, rfl, by decide⟩
theorem d_X12_keep_25 : kf_dq cX12_keep 25 26 1 (.iconst 0) := ⟨by decide +kernel, rfl⟩
theorem d_X12_keep_26 : kf_dq cX12_keep 26 27 1 (.iload_n 2) := ⟨by decide +kernel, rfl⟩
theorem d_X12_keep_27 : kf_dj cX12_keep 27 30 32 (.if_icmp .ne) := ⟨5, by decide +kernel, rfl, by decide⟩
theorem d_X12_keep_30 : kf_dq cX12_keep 30 31 1 (.iconst 0) := ⟨by decide +kernel, rfl⟩
theorem d_X12_keep_31 : kf_dq cX12_keep 31 32 1 (.ireturn) := ⟨by decide +kernel, rfl⟩
theorem d_X12_keep_32 : kf_dq cX12_keep 32 33 1 (.aload_n 0) := ⟨by decide +kernel, rfl⟩
theorem d_X12_keep_33 : kf_dq cX12_keep 33 36 3 (.invokevirtual 323) := ⟨by decide +kernel, rfl⟩
theorem d_X12_keep_36 : kf_dq cX12_keep 36 37 1 (.aload_n 0) := ⟨by decide +kernel, rfl⟩
theorem d_X12_keep_37 : kf_dq cX12_keep 37 40 3 (.getfield 122) := ⟨by decide +kernel, rfl⟩
theorem d_X12_keep_40 : kf_dq cX12_keep 40 42 2 (.bipush 54) := ⟨by decide +kernel, rfl⟩
theorem d_X12_keep_42 : kf_dq cX12_keep 42 43 1 (.iload_n 1) := ⟨by decide +kernel, rfl⟩
theorem d_X12_keep_43 : kf_dq cX12_keep 43 44 1 (.iadd) := ⟨by decide +kernel, rfl⟩
theorem d_X12_keep_44 : kf_dq cX12_keep 44 45 1 (.iload_n 2) := ⟨by decide +kernel, rfl⟩
theorem d_X12_keep_45 : kf_dj cX12_keep 45 48 52 (.ifCond .eq) := ⟨7, by decide +kernel, rfl, by decide⟩
theorem d_X12_keep_48 : kf_dq cX12_keep 48 49 1 (.iconst 1) := ⟨by decide +kernel, rfl⟩
theorem d_X12_keep_49 : kf_dj cX12_keep 49 52 53 .goto := ⟨4, by decide +kernel, rfl, by decide⟩
theorem d_X12_keep_52 : kf_dq cX12_keep 52 53 1 (.iconst 0) := ⟨by decide +kernel, rfl⟩
theorem d_X12_keep_53 : kf_dq cX12_keep 53 54 1 (.iastore) := ⟨by decide +kernel, rfl⟩
theorem d_X12_keep_54 : kf_dq cX12_keep 54 55 1 (.aload_n 0) := ⟨by decide +kernel, rfl⟩
theorem d_X12_keep_55 : kf_dq cX12_keep 55 58 3 (.invokevirtual 402) := ⟨by decide +kernel, rfl⟩
theorem d_X12_keep_58 : kf_dq cX12_keep 58 59 1 (.iconst 1) := ⟨by decide +kernel, rfl⟩
theorem d_X12_keep_59 : kf_dq cX12_keep 59 60 1 (.ireturn) := ⟨by decide +kernel, rfl⟩
def f_X12_keep_53 (v0 : Nat) (s0 : Nat) (s1 : Int32) (s2 : Int32) (σ : kf_St) : Option (Int32 × kf_St) :=
  if kf_ix s1 (kf_ln s0) = true then
  kf_lt (kf_wi σ s0 (Int32.toNatClampNeg s1) s2) fun σ_2 =>
  (f_X12_records v0 σ_2).bind fun q_3 =>
  some (1, q_3)
  else none
set_option maxRecDepth 100000 in
set_option maxHeartbeats 4000000 in
theorem b_X12_keep_53 {X : kf_X} {G : kf_G} {q : (Int32 × kf_St)} (E : kf_ok X G cX12_keep RX12 3 (some .boolean) (3)) (hty : kf_wt G) (v0 : Nat) (s0 : Nat) (s1 : Int32) (s2 : Int32) (k_v0 : kf_kd G v0 = 13) (k_s0 : kf_kd G s0 = 50) (σ : kf_St) (h : f_X12_keep_53 v0 s0 s1 s2 σ = some q) : kf_WA X G 3 (kf_Q X G (some (.int q.1)) q.2) 53 [(0, .ref (kf_ad G v0))] [.int s2, .int s1, .ref (kf_ad G s0)] σ := by
  unfold f_X12_keep_53 at h
  obtain ⟨g_1, h⟩ := kf_gd h
  obtain ⟨σ_2, eσ_2, h⟩ := kf_lte h
  refine wa_iast k_s0 g_1 E d_X12_keep_53 eσ_2 ?_
  refine wa_aload_n 0 rfl E d_X12_keep_54 ?_
  obtain ⟨q_3, hq_3, h⟩ := kf_bd h
  refine wa_callV (st2 := []) (c_X12_records hty v0 k_v0 σ_2 hq_3) mv_X12_records ml_X12_402 k_v0 rfl (Nat.le_of_ble_eq_true rfl) rfl (Nat.le_of_ble_eq_true rfl) E d_X12_keep_55 rfl ?_
  refine wa_iconst 1 ic_1 E d_X12_keep_58 ?_
  cases h
  exact wa_zret kf_z1 E d_X12_keep_59
def f_X12_keep_26 (v0 : Nat) (v1 : Int32) (v2 : Int32) (s0 : Int32) (σ : kf_St) : Option (Int32 × kf_St) :=
  if s0 = v2 then
    some (0, σ)
  else
    (f_X12_copies v0 σ).bind fun q_2 =>
    if v2 = 0 then
      f_X12_keep_53 v0 (kf_rf v0 52) (54 + v1) 0 q_2
    else
      f_X12_keep_53 v0 (kf_rf v0 52) (54 + v1) 1 q_2
set_option maxRecDepth 100000 in
set_option maxHeartbeats 4000000 in
theorem b_X12_keep_26 {X : kf_X} {G : kf_G} {q : (Int32 × kf_St)} (E : kf_ok X G cX12_keep RX12 3 (some .boolean) (3)) (hty : kf_wt G) (v0 : Nat) (v1 : Int32) (v2 : Int32) (s0 : Int32) (k_v0 : kf_kd G v0 = 13) (σ : kf_St) (h : f_X12_keep_26 v0 v1 v2 s0 σ = some q) : kf_WA X G 3 (kf_Q X G (some (.int q.1)) q.2) 26 [(0, .ref (kf_ad G v0)), (1, .int v1), (2, .int v2)] [.int s0] σ := by
  unfold f_X12_keep_26 at h
  refine wa_iload_n 2 rfl E d_X12_keep_26 ?_
  refine wa_icmp_ne E d_X12_keep_27 (fun c_1 => ?_) (fun c_1 => ?_)
  · replace h := kf_iff c_1 h
    refine wa_aload_n 0 rfl E d_X12_keep_32 ?_
    obtain ⟨q_2, hq_2, h⟩ := kf_bd h
    refine wa_callV (st2 := []) (c_X12_copies hty v0 k_v0 σ hq_2) mv_X12_copies ml_X12_323 k_v0 rfl (Nat.le_of_ble_eq_true rfl) rfl (Nat.le_of_ble_eq_true rfl) E d_X12_keep_33 rfl ?_
    refine wa_aload_n 0 rfl E d_X12_keep_36 ?_
    refine wa_getR fl_X12_122 k_v0 rfl E d_X12_keep_37 ?_
    refine wa_bipush 54 bp_54 E d_X12_keep_40 ?_
    refine wa_iload_n 1 rfl E d_X12_keep_42 ?_
    refine wa_iadd E d_X12_keep_43 ?_
    refine wa_iload_n 2 rfl E d_X12_keep_44 ?_
    refine wa_if_eq E d_X12_keep_45 (fun c_3 => ?_) (fun c_3 => ?_)
    · replace h := kf_ift c_3 h
      refine wa_iconst 0 ic_0 E d_X12_keep_52 ?_
      refine wa_sub [0] rfl ?_
      exact b_X12_keep_53 E hty v0 (kf_rf v0 52) (54 + v1) 0 k_v0 (kf_wtf hty 52 49 k_v0 (by decide) rfl) q_2 h
    · replace h := kf_iff c_3 h
      refine wa_iconst 1 ic_1 E d_X12_keep_48 ?_
      refine wa_goto E d_X12_keep_49 ?_
      refine wa_sub [0] rfl ?_
      exact b_X12_keep_53 E hty v0 (kf_rf v0 52) (54 + v1) 1 k_v0 (kf_wtf hty 52 49 k_v0 (by decide) rfl) q_2 h
  · replace h := kf_ift c_1 h
    refine wa_iconst 0 ic_0 E d_X12_keep_30 ?_
    cases h
    exact wa_zret kf_z0 E d_X12_keep_31
def f_X12_keep (v0 : Nat) (v1 : Int32) (v2 : Int32) (σ : kf_St) : Option (Int32 × kf_St) :=
  (f_X12_isRound v0 v1 σ).bind fun q_1 =>
  if q_1.1 = 0 then
    some (0, q_1.2)
  else
    if kf_ix (54 + v1) (kf_ln (kf_rf v0 51)) = true then
    if (q_1.2.1 (kf_rf v0 51) (Int32.toNatClampNeg (54 + v1))) = 1 then
      f_X12_keep_26 v0 v1 v2 1 q_1.2
    else
      f_X12_keep_26 v0 v1 v2 0 q_1.2
    else none
set_option maxRecDepth 100000 in
set_option maxHeartbeats 4000000 in
theorem c_X12_keep {G : kf_G} (hty : kf_wt G) (v0 : Nat) (v1 : Int32) (v2 : Int32) (k_v0 : kf_kd G v0 = 13) (σ : kf_St) {q : (Int32 × kf_St)} (h : f_X12_keep v0 v1 v2 σ = some q) : kf_Ct (3) yX12_keep cX12_keep 3 (some .boolean) G [.ref (kf_ad G v0), .int v1, .int v2] σ (some (.int q.1)) q.2 := by
  refine kf_Ct.of hty.1 (lv := [(0, .ref (kf_ad G v0)), (1, .int v1), (2, .int v2)]) (by decide +kernel) rfl (Nat.le_of_ble_eq_true rfl) (fun X E => ?_)
  unfold f_X12_keep at h
  refine wa_aload_n 0 rfl E d_X12_keep_0 ?_
  refine wa_iload_n 1 rfl E d_X12_keep_1 ?_
  obtain ⟨q_1, hq_1, h⟩ := kf_bd h
  refine wa_callV (st2 := [.int q_1.1]) (c_X12_isRound hty v0 v1 k_v0 σ hq_1) mv_X12_isRound ml_X12_396 k_v0 rfl (Nat.le_of_ble_eq_true rfl) rfl (Nat.le_of_ble_eq_true rfl) E d_X12_keep_2 rfl ?_
  refine wa_if_eq E d_X12_keep_5 (fun c_2 => ?_) (fun c_2 => ?_)
  · replace h := kf_ift c_2 h
    refine wa_iconst 0 ic_0 E d_X12_keep_30 ?_
    cases h
    exact wa_zret kf_z0 E d_X12_keep_31
  · replace h := kf_iff c_2 h
    refine wa_aload_n 0 rfl E d_X12_keep_8 ?_
    refine wa_getR fl_X12_119 k_v0 rfl E d_X12_keep_9 ?_
    refine wa_bipush 54 bp_54 E d_X12_keep_12 ?_
    refine wa_iload_n 1 rfl E d_X12_keep_14 ?_
    refine wa_iadd E d_X12_keep_15 ?_
    obtain ⟨g_3, h⟩ := kf_gd h
    refine wa_iald (kf_wtf hty 51 49 k_v0 (by decide) rfl) g_3 E d_X12_keep_16 ?_
    refine wa_iconst 1 ic_1 E d_X12_keep_17 ?_
    refine wa_icmp_ne E d_X12_keep_18 (fun c_4 => ?_) (fun c_4 => ?_)
    · replace h := kf_iff c_4 h
      refine wa_iconst 0 ic_0 E d_X12_keep_25 ?_
      exact b_X12_keep_26 E hty v0 v1 v2 0 k_v0 q_1.2 h
    · replace h := kf_ift c_4 h
      refine wa_iconst 1 ic_1 E d_X12_keep_21 ?_
      refine wa_goto E d_X12_keep_22 ?_
      exact b_X12_keep_26 E hty v0 v1 v2 1 k_v0 q_1.2 h
/-! X12_isLong -/
theorem d_X12_isLong_0 : kf_dq cX12_isLong 0 1 1 (.iload_n 0) := ⟨by decide +kernel, rfl⟩
theorem d_X12_isLong_1 : kf_dq cX12_isLong 1 2 1 (.iconst 0) := ⟨by decide +kernel, rfl⟩
theorem d_X12_isLong_2 : kf_dq cX12_isLong 2 4 2 (.bipush 60) := ⟨by decide +kernel, rfl⟩
theorem d_X12_isLong_4 : kf_dq cX12_isLong 4 7 3 (.invokestatic 313) := ⟨by decide +kernel, rfl⟩
theorem d_X12_isLong_7 : kf_dq cX12_isLong 7 8 1 (.ireturn) := ⟨by decide +kernel, rfl⟩
def f_X12_isLong (v0 : Int32) (σ : kf_St) : Option (Int32 × kf_St) :=
  (f_X12_in v0 0 60 σ).bind fun q_1 =>
  if kf_zb q_1.1 = true then some (q_1.1, q_1.2) else none
set_option maxRecDepth 100000 in
set_option maxHeartbeats 4000000 in
theorem c_X12_isLong {G : kf_G} (hty : kf_wt G) (v0 : Int32) (σ : kf_St) {q : (Int32 × kf_St)} (h : f_X12_isLong v0 σ = some q) : kf_Ct (2) yX12_isLong cX12_isLong 1 (some .boolean) G [.int v0] σ (some (.int q.1)) q.2 := by
  refine kf_Ct.of hty.1 (lv := [(0, .int v0)]) (by decide +kernel) rfl (Nat.le_of_ble_eq_true rfl) (fun X E => ?_)
  unfold f_X12_isLong at h
  refine wa_iload_n 0 rfl E d_X12_isLong_0 ?_
  refine wa_iconst 0 ic_0 E d_X12_isLong_1 ?_
  refine wa_bipush 60 bp_60 E d_X12_isLong_2 ?_
  obtain ⟨q_1, hq_1, h⟩ := kf_bd h
  refine wa_callS (st2 := [.int q_1.1]) (c_X12_in hty v0 0 60 σ hq_1) mt_X12_in ml_X12_313 rfl (Nat.le_of_ble_eq_true rfl) rfl (Nat.le_of_ble_eq_true rfl) E d_X12_isLong_4 rfl ?_
  obtain ⟨g_2, h⟩ := kf_gd h
  cases h
  exact wa_zret (kf_zbn g_2) E d_X12_isLong_7
/-! X12_isSome -/
theorem d_X12_isSome_0 : kf_dq cX12_isSome 0 1 1 (.iload_n 0) := ⟨by decide +kernel, rfl⟩
theorem d_X12_isSome_1 : kf_dq cX12_isSome 1 2 1 (.iconst 1) := ⟨by decide +kernel, rfl⟩
theorem d_X12_isSome_2 : kf_dq cX12_isSome 2 4 2 (.bipush 60) := ⟨by decide +kernel, rfl⟩
theorem d_X12_isSome_4 : kf_dq cX12_isSome 4 7 3 (.invokestatic 313) := ⟨by decide +kernel, rfl⟩
theorem d_X12_isSome_7 : kf_dq cX12_isSome 7 8 1 (.ireturn) := ⟨by decide +kernel, rfl⟩
def f_X12_isSome (v0 : Int32) (σ : kf_St) : Option (Int32 × kf_St) :=
  (f_X12_in v0 1 60 σ).bind fun q_1 =>
  if kf_zb q_1.1 = true then some (q_1.1, q_1.2) else none
set_option maxRecDepth 100000 in
set_option maxHeartbeats 4000000 in
theorem c_X12_isSome {G : kf_G} (hty : kf_wt G) (v0 : Int32) (σ : kf_St) {q : (Int32 × kf_St)} (h : f_X12_isSome v0 σ = some q) : kf_Ct (2) yX12_isSome cX12_isSome 1 (some .boolean) G [.int v0] σ (some (.int q.1)) q.2 := by
  refine kf_Ct.of hty.1 (lv := [(0, .int v0)]) (by decide +kernel) rfl (Nat.le_of_ble_eq_true rfl) (fun X E => ?_)
  unfold f_X12_isSome at h
  refine wa_iload_n 0 rfl E d_X12_isSome_0 ?_
  refine wa_iconst 1 ic_1 E d_X12_isSome_1 ?_
  refine wa_bipush 60 bp_60 E d_X12_isSome_2 ?_
  obtain ⟨q_1, hq_1, h⟩ := kf_bd h
  refine wa_callS (st2 := [.int q_1.1]) (c_X12_in hty v0 1 60 σ hq_1) mt_X12_in ml_X12_313 rfl (Nat.le_of_ble_eq_true rfl) rfl (Nat.le_of_ble_eq_true rfl) E d_X12_isSome_4 rfl ?_
  obtain ⟨g_2, h⟩ := kf_gd h
  cases h
  exact wa_zret (kf_zbn g_2) E d_X12_isSome_7
/-! X12_days -/
theorem d_X12_days_0 : kf_dq cX12_days 0 1 1 (.iload_n 1) := ⟨by decide +kernel, rfl⟩
theorem d_X12_days_1 : kf_dq cX12_days 1 4 3 (.invokestatic 411) := ⟨by decide +kernel, rfl⟩
theorem d_X12_days_4 : kf_dj cX12_days 4 7 9 (.ifCond .ne) := ⟨5, by decide +kernel, rfl, by decide⟩
theorem d_X12_days_7 : kf_dq cX12_days 7 8 1 (.iconst (-1)) := ⟨by decide +kernel, rfl⟩
theorem d_X12_days_8 : kf_dq cX12_days 8 9 1 (.ireturn) := ⟨by decide +kernel, rfl⟩
theorem d_X12_days_9 : kf_dq cX12_days 9 10 1 (.iload_n 1) := ⟨by decide +kernel, rfl⟩
theorem d_X12_days_10 : kf_dj cX12_days 10 13 21 (.ifCond .ne) := ⟨11, by decide +kernel, rfl, by decide⟩
theorem d_X12_days_13 : kf_dq cX12_days 13 14 1 (.aload_n 0) := ⟨by decide +kernel, rfl⟩
theorem d_X12_days_14 : kf_dq cX12_days 14 17 3 (.getfield 119) := ⟨by decide +kernel, rfl⟩
theorem d_X12_days_17 : kf_dq cX12_days 17 19 2 (.bipush 69) := ⟨by decide +kernel, rfl⟩
theorem d_X12_days_19 : kf_dq cX12_days 19 20 1 (.iaload) := ⟨by decide +kernel, rfl⟩
theorem d_X12_days_20 : kf_dq cX12_days 20 21 1 (.ireturn) := ⟨by decide +kernel, rfl⟩
theorem d_X12_days_21 : kf_dq cX12_days 21 22 1 (.aload_n 0) := ⟨by decide +kernel, rfl⟩
theorem d_X12_days_22 : kf_dq cX12_days 22 25 3 (.invokevirtual 323) := ⟨by decide +kernel, rfl⟩
theorem d_X12_days_25 : kf_dq cX12_days 25 26 1 (.aload_n 0) := ⟨by decide +kernel, rfl⟩
theorem d_X12_days_26 : kf_dq cX12_days 26 27 1 (.iload_n 1) := ⟨by decide +kernel, rfl⟩
theorem d_X12_days_27 : kf_dq cX12_days 27 30 3 (.invokevirtual 414) := ⟨by decide +kernel, rfl⟩
theorem d_X12_days_30 : kf_dq cX12_days 30 31 1 (.aload_n 0) := ⟨by decide +kernel, rfl⟩
theorem d_X12_days_31 : kf_dq cX12_days 31 34 3 (.invokevirtual 402) := ⟨by decide +kernel, rfl⟩
theorem d_X12_days_34 : kf_dq cX12_days 34 35 1 (.aload_n 0) := ⟨by decide +kernel, rfl⟩
theorem d_X12_days_35 : kf_dq cX12_days 35 38 3 (.getfield 119) := ⟨by decide +kernel, rfl⟩
theorem d_X12_days_38 : kf_dq cX12_days 38 40 2 (.bipush 69) := ⟨by decide +kernel, rfl⟩
theorem d_X12_days_40 : kf_dq cX12_days 40 41 1 (.iaload) := ⟨by decide +kernel, rfl⟩
theorem d_X12_days_41 : kf_dq cX12_days 41 42 1 (.ireturn) := ⟨by decide +kernel, rfl⟩
def f_X12_days (v0 : Nat) (v1 : Int32) (σ : kf_St) : Option (Int32 × kf_St) :=
  (f_X12_isLong v1 σ).bind fun q_1 =>
  if q_1.1 = 0 then
    some ((-1), q_1.2)
  else
    if v1 = 0 then
      if kf_ix 69 (kf_ln (kf_rf v0 51)) = true then
      some ((q_1.2.1 (kf_rf v0 51) (Int32.toNatClampNeg 69)), q_1.2)
      else none
    else
      (f_X12_copies v0 q_1.2).bind fun q_4 =>
      (f_X12_goes v0 v1 q_4).bind fun q_5 =>
      (f_X12_records v0 q_5).bind fun q_6 =>
      if kf_ix 69 (kf_ln (kf_rf v0 51)) = true then
      some ((q_6.1 (kf_rf v0 51) (Int32.toNatClampNeg 69)), q_6)
      else none
set_option maxRecDepth 100000 in
set_option maxHeartbeats 4000000 in
theorem c_X12_days {G : kf_G} (hty : kf_wt G) (v0 : Nat) (v1 : Int32) (k_v0 : kf_kd G v0 = 13) (σ : kf_St) {q : (Int32 × kf_St)} (h : f_X12_days v0 v1 σ = some q) : kf_Ct (7) yX12_days cX12_days 2 (some .int) G [.ref (kf_ad G v0), .int v1] σ (some (.int q.1)) q.2 := by
  refine kf_Ct.of hty.1 (lv := [(0, .ref (kf_ad G v0)), (1, .int v1)]) (by decide +kernel) rfl (Nat.le_of_ble_eq_true rfl) (fun X E => ?_)
  unfold f_X12_days at h
  refine wa_iload_n 1 rfl E d_X12_days_0 ?_
  obtain ⟨q_1, hq_1, h⟩ := kf_bd h
  refine wa_callS (st2 := [.int q_1.1]) (c_X12_isLong hty v1 σ hq_1) mt_X12_isLong ml_X12_411 rfl (Nat.le_of_ble_eq_true rfl) rfl (Nat.le_of_ble_eq_true rfl) E d_X12_days_1 rfl ?_
  refine wa_if_ne E d_X12_days_4 (fun c_2 => ?_) (fun c_2 => ?_)
  · replace h := kf_iff c_2 h
    refine wa_iload_n 1 rfl E d_X12_days_9 ?_
    refine wa_if_ne E d_X12_days_10 (fun c_3 => ?_) (fun c_3 => ?_)
    · replace h := kf_iff c_3 h
      refine wa_aload_n 0 rfl E d_X12_days_21 ?_
      obtain ⟨q_4, hq_4, h⟩ := kf_bd h
      refine wa_callV (st2 := []) (c_X12_copies hty v0 k_v0 q_1.2 hq_4) mv_X12_copies ml_X12_323 k_v0 rfl (Nat.le_of_ble_eq_true rfl) rfl (Nat.le_of_ble_eq_true rfl) E d_X12_days_22 rfl ?_
      refine wa_aload_n 0 rfl E d_X12_days_25 ?_
      refine wa_iload_n 1 rfl E d_X12_days_26 ?_
      obtain ⟨q_5, hq_5, h⟩ := kf_bd h
      refine wa_callV (st2 := []) (c_X12_goes hty v0 v1 k_v0 q_4 hq_5) mv_X12_goes ml_X12_414 k_v0 rfl (Nat.le_of_ble_eq_true rfl) rfl (Nat.le_of_ble_eq_true rfl) E d_X12_days_27 rfl ?_
      refine wa_aload_n 0 rfl E d_X12_days_30 ?_
      obtain ⟨q_6, hq_6, h⟩ := kf_bd h
      refine wa_callV (st2 := []) (c_X12_records hty v0 k_v0 q_5 hq_6) mv_X12_records ml_X12_402 k_v0 rfl (Nat.le_of_ble_eq_true rfl) rfl (Nat.le_of_ble_eq_true rfl) E d_X12_days_31 rfl ?_
      refine wa_aload_n 0 rfl E d_X12_days_34 ?_
      refine wa_getR fl_X12_119 k_v0 rfl E d_X12_days_35 ?_
      refine wa_bipush 69 bp_69 E d_X12_days_38 ?_
      obtain ⟨g_7, h⟩ := kf_gd h
      refine wa_iald (kf_wtf hty 51 49 k_v0 (by decide) rfl) g_7 E d_X12_days_40 ?_
      cases h
      exact wa_iret E d_X12_days_41
    · replace h := kf_ift c_3 h
      refine wa_aload_n 0 rfl E d_X12_days_13 ?_
      refine wa_getR fl_X12_119 k_v0 rfl E d_X12_days_14 ?_
      refine wa_bipush 69 bp_69 E d_X12_days_17 ?_
      obtain ⟨g_8, h⟩ := kf_gd h
      refine wa_iald (kf_wtf hty 51 49 k_v0 (by decide) rfl) g_8 E d_X12_days_19 ?_
      cases h
      exact wa_iret E d_X12_days_20
  · replace h := kf_ift c_2 h
    refine wa_iconst (-1) ic_m1 E d_X12_days_7 ?_
    cases h
    exact wa_iret E d_X12_days_8
/-! X12_undo -/
theorem d_X12_undo_0 : kf_dq cX12_undo 0 1 1 (.aload_n 0) := ⟨by decide +kernel, rfl⟩
theorem d_X12_undo_1 : kf_dq cX12_undo 1 4 3 (.getfield 251) := ⟨by decide +kernel, rfl⟩
theorem d_X12_undo_4 : kf_dj cX12_undo 4 7 9 (.ifCond .ne) := ⟨5, by decide +kernel, rfl, by decide⟩
theorem d_X12_undo_7 : kf_dq cX12_undo 7 8 1 (.iconst 0) := ⟨by decide +kernel, rfl⟩
theorem d_X12_undo_8 : kf_dq cX12_undo 8 9 1 (.ireturn) := ⟨by decide +kernel, rfl⟩
theorem d_X12_undo_9 : kf_dq cX12_undo 9 10 1 (.aload_n 0) := ⟨by decide +kernel, rfl⟩
theorem d_X12_undo_10 : kf_dq cX12_undo 10 11 1 (.dup) := ⟨by decide +kernel, rfl⟩
theorem d_X12_undo_11 : kf_dq cX12_undo 11 14 3 (.getfield 251) := ⟨by decide +kernel, rfl⟩
theorem d_X12_undo_14 : kf_dq cX12_undo 14 15 1 (.iconst 1) := ⟨by decide +kernel, rfl⟩
theorem d_X12_undo_15 : kf_dq cX12_undo 15 16 1 (.isub) := ⟨by decide +kernel, rfl⟩
theorem d_X12_undo_16 : kf_dq cX12_undo 16 19 3 (.putfield 251) := ⟨by decide +kernel, rfl⟩
theorem d_X12_undo_19 : kf_dq cX12_undo 19 20 1 (.iconst 0) := ⟨by decide +kernel, rfl⟩
theorem d_X12_undo_20 : kf_dq cX12_undo 20 21 1 (.istore_n 1) := ⟨by decide +kernel, rfl⟩
theorem d_X12_undo_21 : kf_dq cX12_undo 21 22 1 (.iload_n 1) := ⟨by decide +kernel, rfl⟩
theorem d_X12_undo_22 : kf_dq cX12_undo 22 24 2 (.bipush 70) := ⟨by decide +kernel, rfl⟩
theorem d_X12_undo_24 : kf_dj cX12_undo 24 27 53 (.if_icmp .ge) := ⟨29, by decide +kernel, rfl, by decide⟩
theorem d_X12_undo_27 : kf_dq cX12_undo 27 28 1 (.aload_n 0) := ⟨by decide +kernel, rfl⟩
theorem d_X12_undo_28 : kf_dq cX12_undo 28 31 3 (.getfield 119) := ⟨by decide +kernel, rfl⟩
theorem d_X12_undo_31 : kf_dq cX12_undo 31 32 1 (.iload_n 1) := ⟨by decide +kernel, rfl⟩
theorem d_X12_undo_32 : kf_dq cX12_undo 32 33 1 (.aload_n 0) := ⟨by decide +kernel, rfl⟩
theorem d_X12_undo_33 : kf_dq cX12_undo 33 36 3 (.getfield 128) := ⟨by decide +kernel, rfl⟩
theorem d_X12_undo_36 : kf_dq cX12_undo 36 38 2 (.bipush 70) := ⟨by decide +kernel, rfl⟩
theorem d_X12_undo_38 : kf_dq cX12_undo 38 39 1 (.aload_n 0) := ⟨by decide +kernel, rfl⟩
theorem d_X12_undo_39 : kf_dq cX12_undo 39 42 3 (.getfield 251) := ⟨by decide +kernel, rfl⟩
theorem d_X12_undo_42 : kf_dq cX12_undo 42 43 1 (.imul) := ⟨by decide +kernel, rfl⟩
theorem d_X12_undo_43 : kf_dq cX12_undo 43 44 1 (.iload_n 1) := ⟨by decide +kernel, rfl⟩
theorem d_X12_undo_44 : kf_dq cX12_undo 44 45 1 (.iadd) := ⟨by decide +kernel, rfl⟩
theorem d_X12_undo_45 : kf_dq cX12_undo 45 46 1 (.iaload) := ⟨by decide +kernel, rfl⟩
theorem d_X12_undo_46 : kf_dq cX12_undo 46 47 1 (.iastore) := ⟨by decide +kernel, rfl⟩
theorem d_X12_undo_47 : kf_dq cX12_undo 47 50 3 (.iinc 1 1) := ⟨by decide +kernel, rfl⟩
theorem d_X12_undo_50 : kf_dj cX12_undo 50 53 21 .goto := ⟨(-29), by decide +kernel, rfl, by decide⟩
theorem d_X12_undo_53 : kf_dq cX12_undo 53 54 1 (.iconst 1) := ⟨by decide +kernel, rfl⟩
theorem d_X12_undo_54 : kf_dq cX12_undo 54 55 1 (.ireturn) := ⟨by decide +kernel, rfl⟩
def f_X12_undo_21_s (rec21 : Nat → Int32 → kf_St → Option (Int32 × kf_St)) (v0 : Nat) (v1 : Int32) (σ : kf_St) : Option (Int32 × kf_St) :=
  if 70 ≤ v1 then
    some (1, σ)
  else
    if kf_ix ((70 * (σ.1 v0 56)) + v1) (kf_ln (kf_rf v0 57)) = true then
    if kf_ix v1 (kf_ln (kf_rf v0 51)) = true then
    kf_lt (kf_wi σ (kf_rf v0 51) (Int32.toNatClampNeg v1) (σ.1 (kf_rf v0 57) (Int32.toNatClampNeg ((70 * (σ.1 v0 56)) + v1)))) fun σ_4 =>
    kf_lt (v1 + 1) fun v1_5 =>
    rec21 v0 v1_5 σ_4
    else none
    else none
def f_X12_undo_21 : Nat → Nat → Int32 → kf_St → Option (Int32 × kf_St)
  | 0, _, _, _ => none
  | n + 1, v0, v1, σ => f_X12_undo_21_s (f_X12_undo_21 n) v0 v1 σ
set_option maxRecDepth 100000 in
set_option maxHeartbeats 4000000 in
theorem b_X12_undo_21_s {X : kf_X} {G : kf_G} (rec21 : Nat → Int32 → kf_St → Option (Int32 × kf_St)) {q : (Int32 × kf_St)} (E : kf_ok X G cX12_undo RX12 2 (some .boolean) (1)) (hty : kf_wt G) (hrec21 : ∀ (v0 : Nat) (v1 : Int32) (k_v0 : kf_kd G v0 = 13) (σ : kf_St), rec21 v0 v1 σ = some q → kf_WA X G 2 (kf_Q X G (some (.int q.1)) q.2) 21 [(0, .ref (kf_ad G v0)), (1, .int v1)] [] σ) (v0 : Nat) (v1 : Int32) (k_v0 : kf_kd G v0 = 13) (σ : kf_St) (h : f_X12_undo_21_s rec21 v0 v1 σ = some q) : kf_WA X G 2 (kf_Q X G (some (.int q.1)) q.2) 21 [(0, .ref (kf_ad G v0)), (1, .int v1)] [] σ := by
  unfold f_X12_undo_21_s at h
  refine wa_iload_n 1 rfl E d_X12_undo_21 ?_
  refine wa_bipush 70 bp_70 E d_X12_undo_22 ?_
  refine wa_icmp_ge E d_X12_undo_24 (fun c_1 => ?_) (fun c_1 => ?_)
  · replace h := kf_ift c_1 h
    refine wa_iconst 1 ic_1 E d_X12_undo_53 ?_
    cases h
    exact wa_zret kf_z1 E d_X12_undo_54
  · replace h := kf_iff c_1 h
    refine wa_aload_n 0 rfl E d_X12_undo_27 ?_
    refine wa_getR fl_X12_119 k_v0 rfl E d_X12_undo_28 ?_
    refine wa_iload_n 1 rfl E d_X12_undo_31 ?_
    refine wa_aload_n 0 rfl E d_X12_undo_32 ?_
    refine wa_getR fl_X12_128 k_v0 rfl E d_X12_undo_33 ?_
    refine wa_bipush 70 bp_70 E d_X12_undo_36 ?_
    refine wa_aload_n 0 rfl E d_X12_undo_38 ?_
    refine wa_getI fl_X12_251 k_v0 rfl E d_X12_undo_39 ?_
    refine wa_imul E d_X12_undo_42 ?_
    refine wa_iload_n 1 rfl E d_X12_undo_43 ?_
    refine wa_iadd E d_X12_undo_44 ?_
    obtain ⟨g_2, h⟩ := kf_gd h
    refine wa_iald (kf_wtf hty 57 49 k_v0 (by decide) rfl) g_2 E d_X12_undo_45 ?_
    obtain ⟨g_3, h⟩ := kf_gd h
    obtain ⟨σ_4, eσ_4, h⟩ := kf_lte h
    refine wa_iast (kf_wtf hty 51 49 k_v0 (by decide) rfl) g_3 E d_X12_undo_46 eσ_4 ?_
    obtain ⟨v1_5, ev1_5, h⟩ := kf_lte h
    refine wa_iinc (lv' := [(1, .int v1_5), (0, .ref (kf_ad G v0))]) v1_5 1 rfl (kf_inc ic_1 ev1_5) (by decide) rfl E d_X12_undo_47 ?_
    refine wa_goto E d_X12_undo_50 ?_
    refine wa_sub [1, 0] rfl ?_
    exact hrec21 v0 v1_5 k_v0 σ_4 h
theorem b_X12_undo_21 {X : kf_X} {G : kf_G} {q : (Int32 × kf_St)} (E : kf_ok X G cX12_undo RX12 2 (some .boolean) (1)) (hty : kf_wt G) : ∀ (N : Nat) (v0 : Nat) (v1 : Int32) (k_v0 : kf_kd G v0 = 13) (σ : kf_St) (_ : f_X12_undo_21 N v0 v1 σ = some q), kf_WA X G 2 (kf_Q X G (some (.int q.1)) q.2) 21 [(0, .ref (kf_ad G v0)), (1, .int v1)] [] σ
  | 0, _, _, _, _, h => by cases h
  | N + 1, v0, v1, k_v0, σ, h => b_X12_undo_21_s _ E hty (b_X12_undo_21 E hty N) v0 v1 k_v0 σ h
def f_X12_undo (v0 : Nat) (σ : kf_St) : Option (Int32 × kf_St) :=
  if (σ.1 v0 56) = 0 then
    some (0, σ)
  else
    kf_lt (kf_wi σ v0 56 ((σ.1 v0 56) - 1)) fun σ_2 =>
    f_X12_undo_21 kf_F v0 0 σ_2
set_option maxRecDepth 100000 in
set_option maxHeartbeats 4000000 in
theorem c_X12_undo {G : kf_G} (hty : kf_wt G) (v0 : Nat) (k_v0 : kf_kd G v0 = 13) (σ : kf_St) {q : (Int32 × kf_St)} (h : f_X12_undo v0 σ = some q) : kf_Ct (1) yX12_undo cX12_undo 2 (some .boolean) G [.ref (kf_ad G v0)] σ (some (.int q.1)) q.2 := by
  refine kf_Ct.of hty.1 (lv := [(0, .ref (kf_ad G v0))]) (by decide +kernel) rfl (Nat.le_of_ble_eq_true rfl) (fun X E => ?_)
  unfold f_X12_undo at h
  refine wa_aload_n 0 rfl E d_X12_undo_0 ?_
  refine wa_getI fl_X12_251 k_v0 rfl E d_X12_undo_1 ?_
  refine wa_if_ne E d_X12_undo_4 (fun c_1 => ?_) (fun c_1 => ?_)
  · replace h := kf_iff c_1 h
    refine wa_aload_n 0 rfl E d_X12_undo_9 ?_
    refine wa_dup rfl E d_X12_undo_10 ?_
    refine wa_getI fl_X12_251 k_v0 rfl E d_X12_undo_11 ?_
    refine wa_iconst 1 ic_1 E d_X12_undo_14 ?_
    refine wa_isub E d_X12_undo_15 ?_
    obtain ⟨σ_2, eσ_2, h⟩ := kf_lte h
    refine wa_putI fl_X12_251 fp_12_56 k_v0 rfl (by decide) rfl rfl E d_X12_undo_16 eσ_2 ?_
    refine wa_iconst 0 ic_0 E d_X12_undo_19 ?_
    refine wa_istore_n (lv' := [(1, .int 0), (0, .ref (kf_ad G v0))]) rfl (by decide) rfl E d_X12_undo_20 ?_
    refine wa_sub [1, 0] rfl ?_
    exact b_X12_undo_21 E hty kf_F v0 0 k_v0 σ_2 h
  · replace h := kf_ift c_1 h
    refine wa_iconst 0 ic_0 E d_X12_undo_7 ?_
    cases h
    exact wa_zret kf_z0 E d_X12_undo_8
/-! X12_power -/
theorem d_X12_power_0 : kf_dq cX12_power 0 1 1 (.iconst 1) := ⟨by decide +kernel, rfl⟩
theorem d_X12_power_1 : kf_dq cX12_power 1 2 1 (.istore_n 2) := ⟨by decide +kernel, rfl⟩
theorem d_X12_power_2 : kf_dq cX12_power 2 3 1 (.iconst 0) := ⟨by decide +kernel, rfl⟩
theorem d_X12_power_3 : kf_dq cX12_power 3 4 1 (.istore_n 3) := ⟨by decide +kernel, rfl⟩
theorem d_X12_power_4 : kf_dq cX12_power 4 5 1 (.iload_n 3) := ⟨by decide +kernel, rfl⟩
theorem d_X12_power_5 : kf_dq cX12_power 5 6 1 (.iload_n 1) := ⟨by decide +kernel, rfl⟩
theorem d_X12_power_6 : kf_dj cX12_power 6 9 19 (.if_icmp .ge) := ⟨13, by decide +kernel, rfl, by decide⟩
theorem d_X12_power_9 : kf_dq cX12_power 9 10 1 (.iload_n 2) := ⟨by decide +kernel, rfl⟩
theorem d_X12_power_10 : kf_dq cX12_power 10 11 1 (.iload_n 0) := ⟨by decide +kernel, rfl⟩
theorem d_X12_power_11 : kf_dq cX12_power 11 12 1 (.imul) := ⟨by decide +kernel, rfl⟩
theorem d_X12_power_12 : kf_dq cX12_power 12 13 1 (.istore_n 2) := ⟨by decide +kernel, rfl⟩
theorem d_X12_power_13 : kf_dq cX12_power 13 16 3 (.iinc 3 1) := ⟨by decide +kernel, rfl⟩
theorem d_X12_power_16 : kf_dj cX12_power 16 19 4 .goto := ⟨(-12), by decide +kernel, rfl, by decide⟩
theorem d_X12_power_19 : kf_dq cX12_power 19 20 1 (.iload_n 2) := ⟨by decide +kernel, rfl⟩
theorem d_X12_power_20 : kf_dq cX12_power 20 21 1 (.ireturn) := ⟨by decide +kernel, rfl⟩
def f_X12_power_4_s (rec4 : Int32 → Int32 → Int32 → Int32 → kf_St → Option (Int32 × kf_St)) (v0 : Int32) (v1 : Int32) (v2 : Int32) (v3 : Int32) (σ : kf_St) : Option (Int32 × kf_St) :=
  if v1 ≤ v3 then
    some (v2, σ)
  else
    kf_lt ((v2 * v0)) fun v2_2 =>
    kf_lt (v3 + 1) fun v3_3 =>
    rec4 v0 v1 v2_2 v3_3 σ
def f_X12_power_4 : Nat → Int32 → Int32 → Int32 → Int32 → kf_St → Option (Int32 × kf_St)
  | 0, _, _, _, _, _ => none
  | n + 1, v0, v1, v2, v3, σ => f_X12_power_4_s (f_X12_power_4 n) v0 v1 v2 v3 σ
set_option maxRecDepth 100000 in
set_option maxHeartbeats 4000000 in
theorem b_X12_power_4_s {X : kf_X} {G : kf_G} (rec4 : Int32 → Int32 → Int32 → Int32 → kf_St → Option (Int32 × kf_St)) {q : (Int32 × kf_St)} (E : kf_ok X G cX12_power RX12 4 (some .int) (1)) (hty : kf_wt G) (hrec4 : ∀ (v0 : Int32) (v1 : Int32) (v2 : Int32) (v3 : Int32) (σ : kf_St), rec4 v0 v1 v2 v3 σ = some q → kf_WA X G 4 (kf_Q X G (some (.int q.1)) q.2) 4 [(0, .int v0), (1, .int v1), (2, .int v2), (3, .int v3)] [] σ) (v0 : Int32) (v1 : Int32) (v2 : Int32) (v3 : Int32) (σ : kf_St) (h : f_X12_power_4_s rec4 v0 v1 v2 v3 σ = some q) : kf_WA X G 4 (kf_Q X G (some (.int q.1)) q.2) 4 [(0, .int v0), (1, .int v1), (2, .int v2), (3, .int v3)] [] σ := by
  unfold f_X12_power_4_s at h
  refine wa_iload_n 3 rfl E d_X12_power_4 ?_
  refine wa_iload_n 1 rfl E d_X12_power_5 ?_
  refine wa_icmp_ge E d_X12_power_6 (fun c_1 => ?_) (fun c_1 => ?_)
  · replace h := kf_ift c_1 h
    refine wa_iload_n 2 rfl E d_X12_power_19 ?_
    cases h
    exact wa_iret E d_X12_power_20
  · replace h := kf_iff c_1 h
    refine wa_iload_n 2 rfl E d_X12_power_9 ?_
    refine wa_iload_n 0 rfl E d_X12_power_10 ?_
    refine wa_imul E d_X12_power_11 ?_
    obtain ⟨v2_2, ev2_2, h⟩ := kf_lte h
    refine wa_topi ev2_2 ?_
    refine wa_istore_n (lv' := [(2, .int v2_2), (0, .int v0), (1, .int v1), (3, .int v3)]) rfl (by decide) rfl E d_X12_power_12 ?_
    obtain ⟨v3_3, ev3_3, h⟩ := kf_lte h
    refine wa_iinc (lv' := [(3, .int v3_3), (2, .int v2_2), (0, .int v0), (1, .int v1)]) v3_3 3 rfl (kf_inc ic_1 ev3_3) (by decide) rfl E d_X12_power_13 ?_
    refine wa_goto E d_X12_power_16 ?_
    refine wa_sub [2, 3, 1, 0] rfl ?_
    exact hrec4 v0 v1 v2_2 v3_3 σ h
theorem b_X12_power_4 {X : kf_X} {G : kf_G} {q : (Int32 × kf_St)} (E : kf_ok X G cX12_power RX12 4 (some .int) (1)) (hty : kf_wt G) : ∀ (N : Nat) (v0 : Int32) (v1 : Int32) (v2 : Int32) (v3 : Int32) (σ : kf_St) (_ : f_X12_power_4 N v0 v1 v2 v3 σ = some q), kf_WA X G 4 (kf_Q X G (some (.int q.1)) q.2) 4 [(0, .int v0), (1, .int v1), (2, .int v2), (3, .int v3)] [] σ
  | 0, _, _, _, _, _, h => by cases h
  | N + 1, v0, v1, v2, v3, σ, h => b_X12_power_4_s _ E hty (b_X12_power_4 E hty N) v0 v1 v2 v3 σ h
def f_X12_power (v0 : Int32) (v1 : Int32) (σ : kf_St) : Option (Int32 × kf_St) :=
  f_X12_power_4 kf_F v0 v1 1 0 σ
set_option maxRecDepth 100000 in
set_option maxHeartbeats 4000000 in
theorem c_X12_power {G : kf_G} (hty : kf_wt G) (v0 : Int32) (v1 : Int32) (σ : kf_St) {q : (Int32 × kf_St)} (h : f_X12_power v0 v1 σ = some q) : kf_Ct (1) yX12_power cX12_power 4 (some .int) G [.int v0, .int v1] σ (some (.int q.1)) q.2 := by
  refine kf_Ct.of hty.1 (lv := [(0, .int v0), (1, .int v1)]) (by decide +kernel) rfl (Nat.le_of_ble_eq_true rfl) (fun X E => ?_)
  unfold f_X12_power at h
  refine wa_iconst 1 ic_1 E d_X12_power_0 ?_
  refine wa_istore_n (lv' := [(2, .int 1), (0, .int v0), (1, .int v1)]) rfl (by decide) rfl E d_X12_power_1 ?_
  refine wa_iconst 0 ic_0 E d_X12_power_2 ?_
  refine wa_istore_n (lv' := [(3, .int 0), (2, .int 1), (0, .int v0), (1, .int v1)]) rfl (by decide) rfl E d_X12_power_3 ?_
  refine wa_sub [2, 3, 1, 0] rfl ?_
  exact b_X12_power_4 E hty kf_F v0 v1 1 0 σ h
/-! X12_digitOf -/
theorem d_X12_digitOf_0 : kf_dq cX12_digitOf 0 1 1 (.iload_n 1) := ⟨by decide +kernel, rfl⟩
theorem d_X12_digitOf_1 : kf_dq cX12_digitOf 1 2 1 (.aload_n 0) := ⟨by decide +kernel, rfl⟩
theorem d_X12_digitOf_2 : kf_dq cX12_digitOf 2 5 3 (.getfield 52) := ⟨by decide +kernel, rfl⟩
theorem d_X12_digitOf_5 : kf_dq cX12_digitOf 5 6 1 (.aload_n 0) := ⟨by decide +kernel, rfl⟩
theorem d_X12_digitOf_6 : kf_dq cX12_digitOf 6 9 3 (.getfield 233) := ⟨by decide +kernel, rfl⟩
theorem d_X12_digitOf_9 : kf_dq cX12_digitOf 9 10 1 (.iaload) := ⟨by decide +kernel, rfl⟩
theorem d_X12_digitOf_10 : kf_dq cX12_digitOf 10 11 1 (.iload_n 2) := ⟨by decide +kernel, rfl⟩
theorem d_X12_digitOf_11 : kf_dq cX12_digitOf 11 12 1 (.iconst 1) := ⟨by decide +kernel, rfl⟩
theorem d_X12_digitOf_12 : kf_dq cX12_digitOf 12 13 1 (.isub) := ⟨by decide +kernel, rfl⟩
theorem d_X12_digitOf_13 : kf_dq cX12_digitOf 13 14 1 (.iload_n 3) := ⟨by decide +kernel, rfl⟩
theorem d_X12_digitOf_14 : kf_dq cX12_digitOf 14 15 1 (.isub) := ⟨by decide +kernel, rfl⟩
theorem d_X12_digitOf_15 : kf_dq cX12_digitOf 15 18 3 (.invokestatic 417) := ⟨by decide +kernel, rfl⟩
theorem d_X12_digitOf_18 : kf_dq cX12_digitOf 18 19 1 (.idiv) := ⟨by decide +kernel, rfl⟩
theorem d_X12_digitOf_19 : kf_dq cX12_digitOf 19 20 1 (.aload_n 0) := ⟨by decide +kernel, rfl⟩
theorem d_X12_digitOf_20 : kf_dq cX12_digitOf 20 23 3 (.getfield 52) := ⟨by decide +kernel, rfl⟩
theorem d_X12_digitOf_23 : kf_dq cX12_digitOf 23 24 1 (.aload_n 0) := ⟨by decide +kernel, rfl⟩
theorem d_X12_digitOf_24 : kf_dq cX12_digitOf 24 27 3 (.getfield 233) := ⟨by decide +kernel, rfl⟩
theorem d_X12_digitOf_27 : kf_dq cX12_digitOf 27 28 1 (.iaload) := ⟨by decide +kernel, rfl⟩
theorem d_X12_digitOf_28 : kf_dq cX12_digitOf 28 29 1 (.irem) := ⟨by decide +kernel, rfl⟩
theorem d_X12_digitOf_29 : kf_dq cX12_digitOf 29 30 1 (.ireturn) := ⟨by decide +kernel, rfl⟩
def f_X12_digitOf (v0 : Nat) (v1 : Int32) (v2 : Int32) (v3 : Int32) (σ : kf_St) : Option (Int32 × kf_St) :=
  if kf_ix (σ.1 v0 18) (kf_ln (kf_rf v0 25)) = true then
  (f_X12_power (σ.1 (kf_rf v0 25) (Int32.toNatClampNeg (σ.1 v0 18))) ((v2 - 1) - v3) σ).bind fun q_2 =>
  if q_2.1 = 0 then none else
  if kf_ix (q_2.2.1 v0 18) (kf_ln (kf_rf v0 25)) = true then
  if (q_2.2.1 (kf_rf v0 25) (Int32.toNatClampNeg (q_2.2.1 v0 18))) = 0 then none else
  some (((v1 / q_2.1) - (v1 / q_2.1) / (q_2.2.1 (kf_rf v0 25) (Int32.toNatClampNeg (q_2.2.1 v0 18))) * (q_2.2.1 (kf_rf v0 25) (Int32.toNatClampNeg (q_2.2.1 v0 18)))), q_2.2)
  else none
  else none
set_option maxRecDepth 100000 in
set_option maxHeartbeats 4000000 in
theorem c_X12_digitOf {G : kf_G} (hty : kf_wt G) (v0 : Nat) (v1 : Int32) (v2 : Int32) (v3 : Int32) (k_v0 : kf_kd G v0 = 13) (σ : kf_St) {q : (Int32 × kf_St)} (h : f_X12_digitOf v0 v1 v2 v3 σ = some q) : kf_Ct (2) yX12_digitOf cX12_digitOf 4 (some .int) G [.ref (kf_ad G v0), .int v1, .int v2, .int v3] σ (some (.int q.1)) q.2 := by
  refine kf_Ct.of hty.1 (lv := [(0, .ref (kf_ad G v0)), (1, .int v1), (2, .int v2), (3, .int v3)]) (by decide +kernel) rfl (Nat.le_of_ble_eq_true rfl) (fun X E => ?_)
  unfold f_X12_digitOf at h
  refine wa_iload_n 1 rfl E d_X12_digitOf_0 ?_
  refine wa_aload_n 0 rfl E d_X12_digitOf_1 ?_
  refine wa_getR fl_X12_52 k_v0 rfl E d_X12_digitOf_2 ?_
  refine wa_aload_n 0 rfl E d_X12_digitOf_5 ?_
  refine wa_getI fl_X12_233 k_v0 rfl E d_X12_digitOf_6 ?_
  obtain ⟨g_1, h⟩ := kf_gd h
  refine wa_iald (kf_wtf hty 25 49 k_v0 (by decide) rfl) g_1 E d_X12_digitOf_9 ?_
  refine wa_iload_n 2 rfl E d_X12_digitOf_10 ?_
  refine wa_iconst 1 ic_1 E d_X12_digitOf_11 ?_
  refine wa_isub E d_X12_digitOf_12 ?_
  refine wa_iload_n 3 rfl E d_X12_digitOf_13 ?_
  refine wa_isub E d_X12_digitOf_14 ?_
  obtain ⟨q_2, hq_2, h⟩ := kf_bd h
  refine wa_callS (st2 := [.int q_2.1, .int v1]) (c_X12_power hty (σ.1 (kf_rf v0 25) (Int32.toNatClampNeg (σ.1 v0 18))) ((v2 - 1) - v3) σ hq_2) mt_X12_power ml_X12_417 rfl (Nat.le_of_ble_eq_true rfl) rfl (Nat.le_of_ble_eq_true rfl) E d_X12_digitOf_15 rfl ?_
  obtain ⟨g_3, h⟩ := kf_gn h
  refine wa_idiv g_3 E d_X12_digitOf_18 ?_
  refine wa_aload_n 0 rfl E d_X12_digitOf_19 ?_
  refine wa_getR fl_X12_52 k_v0 rfl E d_X12_digitOf_20 ?_
  refine wa_aload_n 0 rfl E d_X12_digitOf_23 ?_
  refine wa_getI fl_X12_233 k_v0 rfl E d_X12_digitOf_24 ?_
  obtain ⟨g_4, h⟩ := kf_gd h
  refine wa_iald (kf_wtf hty 25 49 k_v0 (by decide) rfl) g_4 E d_X12_digitOf_27 ?_
  obtain ⟨g_5, h⟩ := kf_gn h
  refine wa_irem g_5 E d_X12_digitOf_28 ?_
  cases h
  exact wa_iret E d_X12_digitOf_29
/-! X12_doesWay -/
theorem d_X12_doesWay_0 : kf_dq cX12_doesWay 0 1 1 (.aload_n 0) := ⟨by decide +kernel, rfl⟩
theorem d_X12_doesWay_1 : kf_dq cX12_doesWay 1 4 3 (.invokevirtual 323) := ⟨by decide +kernel, rfl⟩
theorem d_X12_doesWay_4 : kf_dq cX12_doesWay 4 5 1 (.iconst 0) := ⟨by decide +kernel, rfl⟩
theorem d_X12_doesWay_5 : kf_dq cX12_doesWay 5 7 2 (.istore 5) := ⟨by decide +kernel, rfl⟩
theorem d_X12_doesWay_7 : kf_dq cX12_doesWay 7 9 2 (.iload 5) := ⟨by decide +kernel, rfl⟩
theorem d_X12_doesWay_9 : kf_dq cX12_doesWay 9 11 2 (.iload 4) := ⟨by decide +kernel, rfl⟩
theorem d_X12_doesWay_11 : kf_dj cX12_doesWay 11 14 34 (.if_icmp .ge) := ⟨23, by decide +kernel, rfl, by decide⟩
theorem d_X12_doesWay_14 : kf_dq cX12_doesWay 14 15 1 (.aload_n 0) := ⟨by decide +kernel, rfl⟩
theorem d_X12_doesWay_15 : kf_dq cX12_doesWay 15 16 1 (.iload_n 1) := ⟨by decide +kernel, rfl⟩
theorem d_X12_doesWay_16 : kf_dq cX12_doesWay 16 17 1 (.aload_n 0) := ⟨by decide +kernel, rfl⟩
theorem d_X12_doesWay_17 : kf_dq cX12_doesWay 17 18 1 (.iload_n 3) := ⟨by decide +kernel, rfl⟩
theorem d_X12_doesWay_18 : kf_dq cX12_doesWay 18 20 2 (.iload 4) := ⟨by decide +kernel, rfl⟩
theorem d_X12_doesWay_20 : kf_dq cX12_doesWay 20 22 2 (.iload 5) := ⟨by decide +kernel, rfl⟩
theorem d_X12_doesWay_22 : kf_dq cX12_doesWay 22 25 3 (.invokevirtual 420) := ⟨by decide +kernel, rfl⟩
theorem d_X12_doesWay_25 : kf_dq cX12_doesWay 25 28 3 (.invokevirtual 374) := ⟨by decide +kernel, rfl⟩
theorem d_X12_doesWay_28 : kf_dq cX12_doesWay 28 31 3 (.iinc 5 1) := ⟨by decide +kernel, rfl⟩
theorem d_X12_doesWay_31 : kf_dj cX12_doesWay 31 34 7 .goto := ⟨(-24), by decide +kernel, rfl, by decide⟩
theorem d_X12_doesWay_34 : kf_dq cX12_doesWay 34 35 1 (.aload_n 0) := ⟨by decide +kernel, rfl⟩
theorem d_X12_doesWay_35 : kf_dq cX12_doesWay 35 36 1 (.iload_n 1) := ⟨by decide +kernel, rfl⟩
theorem d_X12_doesWay_36 : kf_dq cX12_doesWay 36 39 3 (.invokevirtual 390) := ⟨by decide +kernel, rfl⟩
theorem d_X12_doesWay_39 : kf_dq cX12_doesWay 39 40 1 (.iload_n 2) := ⟨by decide +kernel, rfl⟩
theorem d_X12_doesWay_40 : kf_dj cX12_doesWay 40 43 47 (.if_icmp .ne) := ⟨7, by decide +kernel, rfl, by decide⟩
theorem d_X12_doesWay_43 : kf_dq cX12_doesWay 43 44 1 (.iconst 1) := ⟨by decide +kernel, rfl⟩
theorem d_X12_doesWay_44 : kf_dj cX12_doesWay 44 47 48 .goto := ⟨4, by decide +kernel, rfl, by decide⟩
theorem d_X12_doesWay_47 : kf_dq cX12_doesWay 47 48 1 (.iconst 0) := ⟨by decide +kernel, rfl⟩
theorem d_X12_doesWay_48 : kf_dq cX12_doesWay 48 49 1 (.ireturn) := ⟨by decide +kernel, rfl⟩
def f_X12_doesWay_7_s (rec7 : Nat → Int32 → Int32 → Int32 → Int32 → Int32 → kf_St → Option (Int32 × kf_St)) (v0 : Nat) (v1 : Int32) (v2 : Int32) (v3 : Int32) (v4 : Int32) (v5 : Int32) (σ : kf_St) : Option (Int32 × kf_St) :=
  if v4 ≤ v5 then
    (f_X12_knownBy v0 v1 σ).bind fun q_2 =>
    if q_2.1 = v2 then
      some (1, q_2.2)
    else
      some (0, q_2.2)
  else
    (f_X12_digitOf v0 v3 v4 v5 σ).bind fun q_4 =>
    (f_X12_lifted v0 v1 q_4.1 q_4.2).bind fun q_5 =>
    kf_lt (v5 + 1) fun v5_6 =>
    rec7 v0 v1 v2 v3 v4 v5_6 q_5
def f_X12_doesWay_7 : Nat → Nat → Int32 → Int32 → Int32 → Int32 → Int32 → kf_St → Option (Int32 × kf_St)
  | 0, _, _, _, _, _, _, _ => none
  | n + 1, v0, v1, v2, v3, v4, v5, σ => f_X12_doesWay_7_s (f_X12_doesWay_7 n) v0 v1 v2 v3 v4 v5 σ
set_option maxRecDepth 100000 in
set_option maxHeartbeats 4000000 in
theorem b_X12_doesWay_7_s {X : kf_X} {G : kf_G} (rec7 : Nat → Int32 → Int32 → Int32 → Int32 → Int32 → kf_St → Option (Int32 × kf_St)) {q : (Int32 × kf_St)} (E : kf_ok X G cX12_doesWay RX12 6 (some .boolean) (5)) (hty : kf_wt G) (hrec7 : ∀ (v0 : Nat) (v1 : Int32) (v2 : Int32) (v3 : Int32) (v4 : Int32) (v5 : Int32) (k_v0 : kf_kd G v0 = 13) (σ : kf_St), rec7 v0 v1 v2 v3 v4 v5 σ = some q → kf_WA X G 6 (kf_Q X G (some (.int q.1)) q.2) 7 [(0, .ref (kf_ad G v0)), (1, .int v1), (2, .int v2), (3, .int v3), (4, .int v4), (5, .int v5)] [] σ) (v0 : Nat) (v1 : Int32) (v2 : Int32) (v3 : Int32) (v4 : Int32) (v5 : Int32) (k_v0 : kf_kd G v0 = 13) (σ : kf_St) (h : f_X12_doesWay_7_s rec7 v0 v1 v2 v3 v4 v5 σ = some q) : kf_WA X G 6 (kf_Q X G (some (.int q.1)) q.2) 7 [(0, .ref (kf_ad G v0)), (1, .int v1), (2, .int v2), (3, .int v3), (4, .int v4), (5, .int v5)] [] σ := by
  unfold f_X12_doesWay_7_s at h
  refine wa_iload 5 rfl E d_X12_doesWay_7 ?_
  refine wa_iload 4 rfl E d_X12_doesWay_9 ?_
  refine wa_icmp_ge E d_X12_doesWay_11 (fun c_1 => ?_) (fun c_1 => ?_)
  · replace h := kf_ift c_1 h
    refine wa_aload_n 0 rfl E d_X12_doesWay_34 ?_
    refine wa_iload_n 1 rfl E d_X12_doesWay_35 ?_
    obtain ⟨q_2, hq_2, h⟩ := kf_bd h
    refine wa_callV (st2 := [.int q_2.1]) (c_X12_knownBy hty v0 v1 k_v0 σ hq_2) mv_X12_knownBy ml_X12_390 k_v0 rfl (Nat.le_of_ble_eq_true rfl) rfl (Nat.le_of_ble_eq_true rfl) E d_X12_doesWay_36 rfl ?_
    refine wa_iload_n 2 rfl E d_X12_doesWay_39 ?_
    refine wa_icmp_ne E d_X12_doesWay_40 (fun c_3 => ?_) (fun c_3 => ?_)
    · replace h := kf_iff c_3 h
      refine wa_iconst 0 ic_0 E d_X12_doesWay_47 ?_
      cases h
      exact wa_zret kf_z0 E d_X12_doesWay_48
    · replace h := kf_ift c_3 h
      refine wa_iconst 1 ic_1 E d_X12_doesWay_43 ?_
      refine wa_goto E d_X12_doesWay_44 ?_
      cases h
      exact wa_zret kf_z1 E d_X12_doesWay_48
  · replace h := kf_iff c_1 h
    refine wa_aload_n 0 rfl E d_X12_doesWay_14 ?_
    refine wa_iload_n 1 rfl E d_X12_doesWay_15 ?_
    refine wa_aload_n 0 rfl E d_X12_doesWay_16 ?_
    refine wa_iload_n 3 rfl E d_X12_doesWay_17 ?_
    refine wa_iload 4 rfl E d_X12_doesWay_18 ?_
    refine wa_iload 5 rfl E d_X12_doesWay_20 ?_
    obtain ⟨q_4, hq_4, h⟩ := kf_bd h
    refine wa_callV (st2 := [.int q_4.1, .int v1, .ref (kf_ad G v0)]) (c_X12_digitOf hty v0 v3 v4 v5 k_v0 σ hq_4) mv_X12_digitOf ml_X12_420 k_v0 rfl (Nat.le_of_ble_eq_true rfl) rfl (Nat.le_of_ble_eq_true rfl) E d_X12_doesWay_22 rfl ?_
    obtain ⟨q_5, hq_5, h⟩ := kf_bd h
    refine wa_callV (st2 := []) (c_X12_lifted hty v0 v1 q_4.1 k_v0 q_4.2 hq_5) mv_X12_lifted ml_X12_374 k_v0 rfl (Nat.le_of_ble_eq_true rfl) rfl (Nat.le_of_ble_eq_true rfl) E d_X12_doesWay_25 rfl ?_
    obtain ⟨v5_6, ev5_6, h⟩ := kf_lte h
    refine wa_iinc (lv' := [(5, .int v5_6), (0, .ref (kf_ad G v0)), (1, .int v1), (2, .int v2), (3, .int v3), (4, .int v4)]) v5_6 5 rfl (kf_inc ic_1 ev5_6) (by decide) rfl E d_X12_doesWay_28 ?_
    refine wa_goto E d_X12_doesWay_31 ?_
    refine wa_sub [1, 2, 3, 4, 5, 0] rfl ?_
    exact hrec7 v0 v1 v2 v3 v4 v5_6 k_v0 q_5 h
theorem b_X12_doesWay_7 {X : kf_X} {G : kf_G} {q : (Int32 × kf_St)} (E : kf_ok X G cX12_doesWay RX12 6 (some .boolean) (5)) (hty : kf_wt G) : ∀ (N : Nat) (v0 : Nat) (v1 : Int32) (v2 : Int32) (v3 : Int32) (v4 : Int32) (v5 : Int32) (k_v0 : kf_kd G v0 = 13) (σ : kf_St) (_ : f_X12_doesWay_7 N v0 v1 v2 v3 v4 v5 σ = some q), kf_WA X G 6 (kf_Q X G (some (.int q.1)) q.2) 7 [(0, .ref (kf_ad G v0)), (1, .int v1), (2, .int v2), (3, .int v3), (4, .int v4), (5, .int v5)] [] σ
  | 0, _, _, _, _, _, _, _, _, h => by cases h
  | N + 1, v0, v1, v2, v3, v4, v5, k_v0, σ, h => b_X12_doesWay_7_s _ E hty (b_X12_doesWay_7 E hty N) v0 v1 v2 v3 v4 v5 k_v0 σ h
def f_X12_doesWay (v0 : Nat) (v1 : Int32) (v2 : Int32) (v3 : Int32) (v4 : Int32) (σ : kf_St) : Option (Int32 × kf_St) :=
  (f_X12_copies v0 σ).bind fun q_1 =>
  f_X12_doesWay_7 kf_F v0 v1 v2 v3 v4 0 q_1
set_option maxRecDepth 100000 in
set_option maxHeartbeats 4000000 in
theorem c_X12_doesWay {G : kf_G} (hty : kf_wt G) (v0 : Nat) (v1 : Int32) (v2 : Int32) (v3 : Int32) (v4 : Int32) (k_v0 : kf_kd G v0 = 13) (σ : kf_St) {q : (Int32 × kf_St)} (h : f_X12_doesWay v0 v1 v2 v3 v4 σ = some q) : kf_Ct (5) yX12_doesWay cX12_doesWay 6 (some .boolean) G [.ref (kf_ad G v0), .int v1, .int v2, .int v3, .int v4] σ (some (.int q.1)) q.2 := by
  refine kf_Ct.of hty.1 (lv := [(0, .ref (kf_ad G v0)), (1, .int v1), (2, .int v2), (3, .int v3), (4, .int v4)]) (by decide +kernel) rfl (Nat.le_of_ble_eq_true rfl) (fun X E => ?_)
  unfold f_X12_doesWay at h
  refine wa_aload_n 0 rfl E d_X12_doesWay_0 ?_
  obtain ⟨q_1, hq_1, h⟩ := kf_bd h
  refine wa_callV (st2 := []) (c_X12_copies hty v0 k_v0 σ hq_1) mv_X12_copies ml_X12_323 k_v0 rfl (Nat.le_of_ble_eq_true rfl) rfl (Nat.le_of_ble_eq_true rfl) E d_X12_doesWay_1 rfl ?_
  refine wa_iconst 0 ic_0 E d_X12_doesWay_4 ?_
  refine wa_istore (lv' := [(5, .int 0), (0, .ref (kf_ad G v0)), (1, .int v1), (2, .int v2), (3, .int v3), (4, .int v4)]) (by decide) rfl E d_X12_doesWay_5 ?_
  refine wa_sub [1, 2, 3, 4, 5, 0] rfl ?_
  exact b_X12_doesWay_7 E hty kf_F v0 v1 v2 v3 v4 0 k_v0 q_1 h
/-! X12_lifts -/
theorem d_X12_lifts_0 : kf_dq cX12_lifts 0 1 1 (.aload_n 0) := ⟨by decide +kernel, rfl⟩
theorem d_X12_lifts_1 : kf_dq cX12_lifts 1 2 1 (.iload_n 1) := ⟨by decide +kernel, rfl⟩
theorem d_X12_lifts_2 : kf_dq cX12_lifts 2 3 1 (.iload_n 2) := ⟨by decide +kernel, rfl⟩
theorem d_X12_lifts_3 : kf_dq cX12_lifts 3 6 3 (.invokevirtual 399) := ⟨by decide +kernel, rfl⟩
theorem d_X12_lifts_6 : kf_dj cX12_lifts 6 9 18 (.ifCond .eq) := ⟨12, by decide +kernel, rfl, by decide⟩
theorem d_X12_lifts_9 : kf_dq cX12_lifts 9 10 1 (.iload_n 3) := ⟨by decide +kernel, rfl⟩
theorem d_X12_lifts_10 : kf_dq cX12_lifts 10 11 1 (.iconst (-1)) := ⟨by decide +kernel, rfl⟩
theorem d_X12_lifts_11 : kf_dq cX12_lifts 11 12 1 (.iconst 3) := ⟨by decide +kernel, rfl⟩
theorem d_X12_lifts_12 : kf_dq cX12_lifts 12 15 3 (.invokestatic 313) := ⟨by decide +kernel, rfl⟩
theorem d_X12_lifts_15 : kf_dj cX12_lifts 15 18 20 (.ifCond .ne) := ⟨5, by decide +kernel, rfl, by decide⟩
theorem d_X12_lifts_18 : kf_dq cX12_lifts 18 19 1 (.iconst (-1)) := ⟨by decide +kernel, rfl⟩
theorem d_X12_lifts_19 : kf_dq cX12_lifts 19 20 1 (.ireturn) := ⟨by decide +kernel, rfl⟩
theorem d_X12_lifts_20 : kf_dq cX12_lifts 20 21 1 (.iconst 0) := ⟨by decide +kernel, rfl⟩
theorem d_X12_lifts_21 : kf_dq cX12_lifts 21 23 2 (.istore 4) := ⟨by decide +kernel, rfl⟩
theorem d_X12_lifts_23 : kf_dq cX12_lifts 23 25 2 (.iload 4) := ⟨by decide +kernel, rfl⟩
theorem d_X12_lifts_25 : kf_dq cX12_lifts 25 26 1 (.iconst 4) := ⟨by decide +kernel, rfl⟩
theorem d_X12_lifts_26 : kf_dj cX12_lifts 26 29 107 (.if_icmp .gt) := ⟨81, by decide +kernel, rfl, by decide⟩
theorem d_X12_lifts_29 : kf_dq cX12_lifts 29 30 1 (.iconst 0) := ⟨by decide +kernel, rfl⟩
theorem d_X12_lifts_30 : kf_dq cX12_lifts 30 32 2 (.istore 5) := ⟨by decide +kernel, rfl⟩
theorem d_X12_lifts_32 : kf_dq cX12_lifts 32 34 2 (.iload 5) := ⟨by decide +kernel, rfl⟩
theorem d_X12_lifts_34 : kf_dq cX12_lifts 34 35 1 (.aload_n 0) := ⟨by decide +kernel, rfl⟩
theorem d_X12_lifts_35 : kf_dq cX12_lifts 35 38 3 (.getfield 52) := ⟨by decide +kernel, rfl⟩
theorem d_X12_lifts_38 : kf_dq cX12_lifts 38 39 1 (.aload_n 0) := ⟨by decide +kernel, rfl⟩
theorem d_X12_lifts_39 : kf_dq cX12_lifts 39 42 3 (.getfield 233) := ⟨by decide +kernel, rfl⟩
theorem d_X12_lifts_42 : kf_dq cX12_lifts 42 43 1 (.iaload) := ⟨by decide +kernel, rfl⟩
theorem d_X12_lifts_43 : kf_dq cX12_lifts 43 45 2 (.iload 4) := ⟨by decide +kernel, rfl⟩
theorem d_X12_lifts_45 : kf_dq cX12_lifts 45 48 3 (.invokestatic 417) := ⟨by decide +kernel, rfl⟩
theorem d_X12_lifts_48 : kf_dj cX12_lifts 48 51 101 (.if_icmp .ge) := ⟨53, by decide +kernel, rfl, by decide⟩
theorem d_X12_lifts_51 : kf_dq cX12_lifts 51 52 1 (.aload_n 0) := ⟨by decide +kernel, rfl⟩
theorem d_X12_lifts_52 : kf_dq cX12_lifts 52 53 1 (.iload_n 1) := ⟨by decide +kernel, rfl⟩
theorem d_X12_lifts_53 : kf_dq cX12_lifts 53 54 1 (.iload_n 2) := ⟨by decide +kernel, rfl⟩
theorem d_X12_lifts_54 : kf_dq cX12_lifts 54 56 2 (.iload 5) := ⟨by decide +kernel, rfl⟩
theorem d_X12_lifts_56 : kf_dq cX12_lifts 56 58 2 (.iload 4) := ⟨by decide +kernel, rfl⟩
theorem d_X12_lifts_58 : kf_dq cX12_lifts 58 61 3 (.invokevirtual 423) := ⟨by decide +kernel, rfl⟩
theorem d_X12_lifts_61 : kf_dj cX12_lifts 61 64 67 (.ifCond .ne) := ⟨6, by decide +kernel, rfl, by decide⟩
theorem d_X12_lifts_64 : kf_dj cX12_lifts 64 67 95 .goto := ⟨31, by decide +kernel, rfl, by decide⟩
theorem d_X12_lifts_67 : kf_dq cX12_lifts 67 68 1 (.iload_n 3) := ⟨by decide +kernel, rfl⟩
theorem d_X12_lifts_68 : kf_dq cX12_lifts 68 69 1 (.iconst (-1)) := ⟨by decide +kernel, rfl⟩
theorem d_X12_lifts_69 : kf_dj cX12_lifts 69 72 75 (.if_icmp .ne) := ⟨6, by decide +kernel, rfl, by decide⟩
theorem d_X12_lifts_72 : kf_dq cX12_lifts 72 74 2 (.iload 4) := ⟨by decide +kernel, rfl⟩
theorem d_X12_lifts_74 : kf_dq cX12_lifts 74 75 1 (.ireturn) := ⟨by decide +kernel, rfl⟩
theorem d_X12_lifts_75 : kf_dq cX12_lifts 75 76 1 (.iload_n 3) := ⟨by decide +kernel, rfl⟩
theorem d_X12_lifts_76 : kf_dq cX12_lifts 76 78 2 (.iload 4) := ⟨by decide +kernel, rfl⟩
theorem d_X12_lifts_78 : kf_dj cX12_lifts 78 81 93 (.if_icmp .ge) := ⟨15, by decide +kernel, rfl, by decide⟩
theorem d_X12_lifts_81 : kf_dq cX12_lifts 81 82 1 (.aload_n 0) := ⟨by decide +kernel, rfl⟩
theorem d_X12_lifts_82 : kf_dq cX12_lifts 82 84 2 (.iload 5) := ⟨by decide +kernel, rfl⟩
theorem d_X12_lifts_84 : kf_dq cX12_lifts 84 86 2 (.iload 4) := ⟨by decide +kernel, rfl⟩
theorem d_X12_lifts_86 : kf_dq cX12_lifts 86 87 1 (.iload_n 3) := ⟨by decide +kernel, rfl⟩
theorem d_X12_lifts_87 : kf_dq cX12_lifts 87 90 3 (.invokevirtual 420) := ⟨by decide +kernel, rfl⟩
theorem d_X12_lifts_90 : kf_dj cX12_lifts 90 93 94 .goto := ⟨4, by decide +kernel, rfl, by decide⟩
theorem d_X12_lifts_93 : kf_dq cX12_lifts 93 94 1 (.iconst (-1)) := ⟨by decide +kernel, rfl⟩
theorem d_X12_lifts_94 : kf_dq cX12_lifts 94 95 1 (.ireturn) := ⟨by decide +kernel, rfl⟩
theorem d_X12_lifts_95 : kf_dq cX12_lifts 95 98 3 (.iinc 5 1) := ⟨by decide +kernel, rfl⟩
theorem d_X12_lifts_98 : kf_dj cX12_lifts 98 101 32 .goto := ⟨(-66), by decide +kernel, rfl, by decide⟩
theorem d_X12_lifts_101 : kf_dq cX12_lifts 101 104 3 (.iinc 4 1) := ⟨by decide +kernel, rfl⟩
theorem d_X12_lifts_104 : kf_dj cX12_lifts 104 107 23 .goto := ⟨(-81), by decide +kernel, rfl, by decide⟩
theorem d_X12_lifts_107 : kf_dq cX12_lifts 107 109 2 (.bipush (-2)) := ⟨by decide +kernel, rfl⟩
theorem d_X12_lifts_109 : kf_dq cX12_lifts 109 110 1 (.ireturn) := ⟨by decide +kernel, rfl⟩
def f_X12_lifts_32_s (rec23 : Nat → Int32 → Int32 → Int32 → Int32 → kf_St → Option (Int32 × kf_St)) (rec32 : Nat → Int32 → Int32 → Int32 → Int32 → Int32 → kf_St → Option (Int32 × kf_St)) (v0 : Nat) (v1 : Int32) (v2 : Int32) (v3 : Int32) (v4 : Int32) (v5 : Int32) (σ : kf_St) : Option (Int32 × kf_St) :=
  if kf_ix (σ.1 v0 18) (kf_ln (kf_rf v0 25)) = true then
  (f_X12_power (σ.1 (kf_rf v0 25) (Int32.toNatClampNeg (σ.1 v0 18))) v4 σ).bind fun q_2 =>
  if q_2.1 ≤ v5 then
    kf_lt (v4 + 1) fun v4_4 =>
    rec23 v0 v1 v2 v3 v4_4 q_2.2
  else
    (f_X12_doesWay v0 v1 v2 v5 v4 q_2.2).bind fun q_5 =>
    if q_5.1 = 0 then
      kf_lt (v5 + 1) fun v5_10 =>
      rec32 v0 v1 v2 v3 v4 v5_10 q_5.2
    else
      if v3 = (-1) then
        some (v4, q_5.2)
      else
        if v4 ≤ v3 then
          some ((-1), q_5.2)
        else
          (f_X12_digitOf v0 v5 v4 v3 q_5.2).bind fun q_9 =>
          some (q_9.1, q_9.2)
  else none
def f_X12_lifts_32 (rec23 : Nat → Int32 → Int32 → Int32 → Int32 → kf_St → Option (Int32 × kf_St)) : Nat → Nat → Int32 → Int32 → Int32 → Int32 → Int32 → kf_St → Option (Int32 × kf_St)
  | 0, _, _, _, _, _, _, _ => none
  | n + 1, v0, v1, v2, v3, v4, v5, σ => f_X12_lifts_32_s rec23 (f_X12_lifts_32 rec23 n) v0 v1 v2 v3 v4 v5 σ
set_option maxRecDepth 100000 in
set_option maxHeartbeats 4000000 in
theorem b_X12_lifts_32_s {X : kf_X} {G : kf_G} {rec23 : Nat → Int32 → Int32 → Int32 → Int32 → kf_St → Option (Int32 × kf_St)} (rec32 : Nat → Int32 → Int32 → Int32 → Int32 → Int32 → kf_St → Option (Int32 × kf_St)) {q : (Int32 × kf_St)} (E : kf_ok X G cX12_lifts RX12 6 (some .int) (6)) (hty : kf_wt G) (hrec23 : ∀ (v0 : Nat) (v1 : Int32) (v2 : Int32) (v3 : Int32) (v4 : Int32) (k_v0 : kf_kd G v0 = 13) (σ : kf_St), rec23 v0 v1 v2 v3 v4 σ = some q → kf_WA X G 6 (kf_Q X G (some (.int q.1)) q.2) 23 [(0, .ref (kf_ad G v0)), (1, .int v1), (2, .int v2), (3, .int v3), (4, .int v4)] [] σ) (hrec32 : ∀ (v0 : Nat) (v1 : Int32) (v2 : Int32) (v3 : Int32) (v4 : Int32) (v5 : Int32) (k_v0 : kf_kd G v0 = 13) (σ : kf_St), rec32 v0 v1 v2 v3 v4 v5 σ = some q → kf_WA X G 6 (kf_Q X G (some (.int q.1)) q.2) 32 [(0, .ref (kf_ad G v0)), (1, .int v1), (2, .int v2), (3, .int v3), (4, .int v4), (5, .int v5)] [] σ) (v0 : Nat) (v1 : Int32) (v2 : Int32) (v3 : Int32) (v4 : Int32) (v5 : Int32) (k_v0 : kf_kd G v0 = 13) (σ : kf_St) (h : f_X12_lifts_32_s rec23 rec32 v0 v1 v2 v3 v4 v5 σ = some q) : kf_WA X G 6 (kf_Q X G (some (.int q.1)) q.2) 32 [(0, .ref (kf_ad G v0)), (1, .int v1), (2, .int v2), (3, .int v3), (4, .int v4), (5, .int v5)] [] σ := by
  unfold f_X12_lifts_32_s at h
  refine wa_iload 5 rfl E d_X12_lifts_32 ?_
  refine wa_aload_n 0 rfl E d_X12_lifts_34 ?_
  refine wa_getR fl_X12_52 k_v0 rfl E d_X12_lifts_35 ?_
  refine wa_aload_n 0 rfl E d_X12_lifts_38 ?_
  refine wa_getI fl_X12_233 k_v0 rfl E d_X12_lifts_39 ?_
  obtain ⟨g_1, h⟩ := kf_gd h
  refine wa_iald (kf_wtf hty 25 49 k_v0 (by decide) rfl) g_1 E d_X12_lifts_42 ?_
  refine wa_iload 4 rfl E d_X12_lifts_43 ?_
  obtain ⟨q_2, hq_2, h⟩ := kf_bd h
  refine wa_callS (st2 := [.int q_2.1, .int v5]) (c_X12_power hty (σ.1 (kf_rf v0 25) (Int32.toNatClampNeg (σ.1 v0 18))) v4 σ hq_2) mt_X12_power ml_X12_417 rfl (Nat.le_of_ble_eq_true rfl) rfl (Nat.le_of_ble_eq_true rfl) E d_X12_lifts_45 rfl ?_
  refine wa_icmp_ge E d_X12_lifts_48 (fun c_3 => ?_) (fun c_3 => ?_)
  · replace h := kf_ift c_3 h
    obtain ⟨v4_4, ev4_4, h⟩ := kf_lte h
    refine wa_iinc (lv' := [(4, .int v4_4), (0, .ref (kf_ad G v0)), (1, .int v1), (2, .int v2), (3, .int v3), (5, .int v5)]) v4_4 4 rfl (kf_inc ic_1 ev4_4) (by decide) rfl E d_X12_lifts_101 ?_
    refine wa_goto E d_X12_lifts_104 ?_
    refine wa_sub [1, 2, 3, 4, 0] rfl ?_
    exact hrec23 v0 v1 v2 v3 v4_4 k_v0 q_2.2 h
  · replace h := kf_iff c_3 h
    refine wa_aload_n 0 rfl E d_X12_lifts_51 ?_
    refine wa_iload_n 1 rfl E d_X12_lifts_52 ?_
    refine wa_iload_n 2 rfl E d_X12_lifts_53 ?_
    refine wa_iload 5 rfl E d_X12_lifts_54 ?_
    refine wa_iload 4 rfl E d_X12_lifts_56 ?_
    obtain ⟨q_5, hq_5, h⟩ := kf_bd h
    refine wa_callV (st2 := [.int q_5.1]) (c_X12_doesWay hty v0 v1 v2 v5 v4 k_v0 q_2.2 hq_5) mv_X12_doesWay ml_X12_423 k_v0 rfl (Nat.le_of_ble_eq_true rfl) rfl (Nat.le_of_ble_eq_true rfl) E d_X12_lifts_58 rfl ?_
    refine wa_if_ne E d_X12_lifts_61 (fun c_6 => ?_) (fun c_6 => ?_)
    · replace h := kf_iff c_6 h
      refine wa_iload_n 3 rfl E d_X12_lifts_67 ?_
      refine wa_iconst (-1) ic_m1 E d_X12_lifts_68 ?_
      refine wa_icmp_ne E d_X12_lifts_69 (fun c_7 => ?_) (fun c_7 => ?_)
      · replace h := kf_iff c_7 h
        refine wa_iload_n 3 rfl E d_X12_lifts_75 ?_
        refine wa_iload 4 rfl E d_X12_lifts_76 ?_
        refine wa_icmp_ge E d_X12_lifts_78 (fun c_8 => ?_) (fun c_8 => ?_)
        · replace h := kf_ift c_8 h
          refine wa_iconst (-1) ic_m1 E d_X12_lifts_93 ?_
          cases h
          exact wa_iret E d_X12_lifts_94
        · replace h := kf_iff c_8 h
          refine wa_aload_n 0 rfl E d_X12_lifts_81 ?_
          refine wa_iload 5 rfl E d_X12_lifts_82 ?_
          refine wa_iload 4 rfl E d_X12_lifts_84 ?_
          refine wa_iload_n 3 rfl E d_X12_lifts_86 ?_
          obtain ⟨q_9, hq_9, h⟩ := kf_bd h
          refine wa_callV (st2 := [.int q_9.1]) (c_X12_digitOf hty v0 v5 v4 v3 k_v0 q_5.2 hq_9) mv_X12_digitOf ml_X12_420 k_v0 rfl (Nat.le_of_ble_eq_true rfl) rfl (Nat.le_of_ble_eq_true rfl) E d_X12_lifts_87 rfl ?_
          refine wa_goto E d_X12_lifts_90 ?_
          cases h
          exact wa_iret E d_X12_lifts_94
      · replace h := kf_ift c_7 h
        refine wa_iload 4 rfl E d_X12_lifts_72 ?_
        cases h
        exact wa_iret E d_X12_lifts_74
    · replace h := kf_ift c_6 h
      refine wa_goto E d_X12_lifts_64 ?_
      obtain ⟨v5_10, ev5_10, h⟩ := kf_lte h
      refine wa_iinc (lv' := [(5, .int v5_10), (0, .ref (kf_ad G v0)), (1, .int v1), (2, .int v2), (3, .int v3), (4, .int v4)]) v5_10 5 rfl (kf_inc ic_1 ev5_10) (by decide) rfl E d_X12_lifts_95 ?_
      refine wa_goto E d_X12_lifts_98 ?_
      refine wa_sub [1, 2, 3, 4, 5, 0] rfl ?_
      exact hrec32 v0 v1 v2 v3 v4 v5_10 k_v0 q_5.2 h
theorem b_X12_lifts_32 {X : kf_X} {G : kf_G} {rec23 : Nat → Int32 → Int32 → Int32 → Int32 → kf_St → Option (Int32 × kf_St)} {q : (Int32 × kf_St)} (E : kf_ok X G cX12_lifts RX12 6 (some .int) (6)) (hty : kf_wt G) (hrec23 : ∀ (v0 : Nat) (v1 : Int32) (v2 : Int32) (v3 : Int32) (v4 : Int32) (k_v0 : kf_kd G v0 = 13) (σ : kf_St), rec23 v0 v1 v2 v3 v4 σ = some q → kf_WA X G 6 (kf_Q X G (some (.int q.1)) q.2) 23 [(0, .ref (kf_ad G v0)), (1, .int v1), (2, .int v2), (3, .int v3), (4, .int v4)] [] σ) : ∀ (N : Nat) (v0 : Nat) (v1 : Int32) (v2 : Int32) (v3 : Int32) (v4 : Int32) (v5 : Int32) (k_v0 : kf_kd G v0 = 13) (σ : kf_St) (_ : f_X12_lifts_32 rec23 N v0 v1 v2 v3 v4 v5 σ = some q), kf_WA X G 6 (kf_Q X G (some (.int q.1)) q.2) 32 [(0, .ref (kf_ad G v0)), (1, .int v1), (2, .int v2), (3, .int v3), (4, .int v4), (5, .int v5)] [] σ
  | 0, _, _, _, _, _, _, _, _, h => by cases h
  | N + 1, v0, v1, v2, v3, v4, v5, k_v0, σ, h => b_X12_lifts_32_s _ E hty hrec23 (b_X12_lifts_32 E hty hrec23 N) v0 v1 v2 v3 v4 v5 k_v0 σ h
def f_X12_lifts_23_s (rec23 : Nat → Int32 → Int32 → Int32 → Int32 → kf_St → Option (Int32 × kf_St)) (v0 : Nat) (v1 : Int32) (v2 : Int32) (v3 : Int32) (v4 : Int32) (σ : kf_St) : Option (Int32 × kf_St) :=
  if 4 < v4 then
    some ((-2), σ)
  else
    f_X12_lifts_32 rec23 kf_F v0 v1 v2 v3 v4 0 σ
def f_X12_lifts_23 : Nat → Nat → Int32 → Int32 → Int32 → Int32 → kf_St → Option (Int32 × kf_St)
  | 0, _, _, _, _, _, _ => none
  | n + 1, v0, v1, v2, v3, v4, σ => f_X12_lifts_23_s (f_X12_lifts_23 n) v0 v1 v2 v3 v4 σ
set_option maxRecDepth 100000 in
set_option maxHeartbeats 4000000 in
theorem b_X12_lifts_23_s {X : kf_X} {G : kf_G} (rec23 : Nat → Int32 → Int32 → Int32 → Int32 → kf_St → Option (Int32 × kf_St)) {q : (Int32 × kf_St)} (E : kf_ok X G cX12_lifts RX12 6 (some .int) (6)) (hty : kf_wt G) (hrec23 : ∀ (v0 : Nat) (v1 : Int32) (v2 : Int32) (v3 : Int32) (v4 : Int32) (k_v0 : kf_kd G v0 = 13) (σ : kf_St), rec23 v0 v1 v2 v3 v4 σ = some q → kf_WA X G 6 (kf_Q X G (some (.int q.1)) q.2) 23 [(0, .ref (kf_ad G v0)), (1, .int v1), (2, .int v2), (3, .int v3), (4, .int v4)] [] σ) (v0 : Nat) (v1 : Int32) (v2 : Int32) (v3 : Int32) (v4 : Int32) (k_v0 : kf_kd G v0 = 13) (σ : kf_St) (h : f_X12_lifts_23_s rec23 v0 v1 v2 v3 v4 σ = some q) : kf_WA X G 6 (kf_Q X G (some (.int q.1)) q.2) 23 [(0, .ref (kf_ad G v0)), (1, .int v1), (2, .int v2), (3, .int v3), (4, .int v4)] [] σ := by
  unfold f_X12_lifts_23_s at h
  refine wa_iload 4 rfl E d_X12_lifts_23 ?_
  refine wa_iconst 4 ic_4 E d_X12_lifts_25 ?_
  refine wa_icmp_gt E d_X12_lifts_26 (fun c_1 => ?_) (fun c_1 => ?_)
  · replace h := kf_ift c_1 h
    refine wa_bipush (-2) bp_m2 E d_X12_lifts_107 ?_
    cases h
    exact wa_iret E d_X12_lifts_109
  · replace h := kf_iff c_1 h
    refine wa_iconst 0 ic_0 E d_X12_lifts_29 ?_
    refine wa_istore (lv' := [(5, .int 0), (0, .ref (kf_ad G v0)), (1, .int v1), (2, .int v2), (3, .int v3), (4, .int v4)]) (by decide) rfl E d_X12_lifts_30 ?_
    refine wa_sub [1, 2, 3, 4, 5, 0] rfl ?_
    exact b_X12_lifts_32 E hty hrec23 kf_F v0 v1 v2 v3 v4 0 k_v0 σ h
theorem b_X12_lifts_23 {X : kf_X} {G : kf_G} {q : (Int32 × kf_St)} (E : kf_ok X G cX12_lifts RX12 6 (some .int) (6)) (hty : kf_wt G) : ∀ (N : Nat) (v0 : Nat) (v1 : Int32) (v2 : Int32) (v3 : Int32) (v4 : Int32) (k_v0 : kf_kd G v0 = 13) (σ : kf_St) (_ : f_X12_lifts_23 N v0 v1 v2 v3 v4 σ = some q), kf_WA X G 6 (kf_Q X G (some (.int q.1)) q.2) 23 [(0, .ref (kf_ad G v0)), (1, .int v1), (2, .int v2), (3, .int v3), (4, .int v4)] [] σ
  | 0, _, _, _, _, _, _, _, h => by cases h
  | N + 1, v0, v1, v2, v3, v4, k_v0, σ, h => b_X12_lifts_23_s _ E hty (b_X12_lifts_23 E hty N) v0 v1 v2 v3 v4 k_v0 σ h
def f_X12_lifts (v0 : Nat) (v1 : Int32) (v2 : Int32) (v3 : Int32) (σ : kf_St) : Option (Int32 × kf_St) :=
  (f_X12_areBoth v0 v1 v2 σ).bind fun q_1 =>
  if q_1.1 = 0 then
    some ((-1), q_1.2)
  else
    (f_X12_in v3 (-1) 3 q_1.2).bind fun q_3 =>
    if q_3.1 = 0 then
      some ((-1), q_3.2)
    else
      f_X12_lifts_23 kf_F v0 v1 v2 v3 0 q_3.2
set_option maxRecDepth 100000 in
set_option maxHeartbeats 4000000 in
theorem c_X12_lifts {G : kf_G} (hty : kf_wt G) (v0 : Nat) (v1 : Int32) (v2 : Int32) (v3 : Int32) (k_v0 : kf_kd G v0 = 13) (σ : kf_St) {q : (Int32 × kf_St)} (h : f_X12_lifts v0 v1 v2 v3 σ = some q) : kf_Ct (6) yX12_lifts cX12_lifts 6 (some .int) G [.ref (kf_ad G v0), .int v1, .int v2, .int v3] σ (some (.int q.1)) q.2 := by
  refine kf_Ct.of hty.1 (lv := [(0, .ref (kf_ad G v0)), (1, .int v1), (2, .int v2), (3, .int v3)]) (by decide +kernel) rfl (Nat.le_of_ble_eq_true rfl) (fun X E => ?_)
  unfold f_X12_lifts at h
  refine wa_aload_n 0 rfl E d_X12_lifts_0 ?_
  refine wa_iload_n 1 rfl E d_X12_lifts_1 ?_
  refine wa_iload_n 2 rfl E d_X12_lifts_2 ?_
  obtain ⟨q_1, hq_1, h⟩ := kf_bd h
  refine wa_callV (st2 := [.int q_1.1]) (c_X12_areBoth hty v0 v1 v2 k_v0 σ hq_1) mv_X12_areBoth ml_X12_399 k_v0 rfl (Nat.le_of_ble_eq_true rfl) rfl (Nat.le_of_ble_eq_true rfl) E d_X12_lifts_3 rfl ?_
  refine wa_if_eq E d_X12_lifts_6 (fun c_2 => ?_) (fun c_2 => ?_)
  · replace h := kf_ift c_2 h
    refine wa_iconst (-1) ic_m1 E d_X12_lifts_18 ?_
    cases h
    exact wa_iret E d_X12_lifts_19
  · replace h := kf_iff c_2 h
    refine wa_iload_n 3 rfl E d_X12_lifts_9 ?_
    refine wa_iconst (-1) ic_m1 E d_X12_lifts_10 ?_
    refine wa_iconst 3 ic_3 E d_X12_lifts_11 ?_
    obtain ⟨q_3, hq_3, h⟩ := kf_bd h
    refine wa_callS (st2 := [.int q_3.1]) (c_X12_in hty v3 (-1) 3 q_1.2 hq_3) mt_X12_in ml_X12_313 rfl (Nat.le_of_ble_eq_true rfl) rfl (Nat.le_of_ble_eq_true rfl) E d_X12_lifts_12 rfl ?_
    refine wa_if_ne E d_X12_lifts_15 (fun c_4 => ?_) (fun c_4 => ?_)
    · replace h := kf_iff c_4 h
      refine wa_iconst 0 ic_0 E d_X12_lifts_20 ?_
      refine wa_istore (lv' := [(4, .int 0), (0, .ref (kf_ad G v0)), (1, .int v1), (2, .int v2), (3, .int v3)]) (by decide) rfl E d_X12_lifts_21 ?_
      refine wa_sub [1, 2, 3, 4, 0] rfl ?_
      exact b_X12_lifts_23 E hty kf_F v0 v1 v2 v3 0 k_v0 q_3.2 h
    · replace h := kf_ift c_4 h
      refine wa_iconst (-1) ic_m1 E d_X12_lifts_18 ?_
      cases h
      exact wa_iret E d_X12_lifts_19
/-! X12_towards -/
theorem d_X12_towards_0 : kf_dq cX12_towards 0 1 1 (.aload_n 0) := ⟨by decide +kernel, rfl⟩
theorem d_X12_towards_1 : kf_dq cX12_towards 1 2 1 (.iload_n 1) := ⟨by decide +kernel, rfl⟩
theorem d_X12_towards_2 : kf_dq cX12_towards 2 3 1 (.iload_n 2) := ⟨by decide +kernel, rfl⟩
theorem d_X12_towards_3 : kf_dq cX12_towards 3 6 3 (.invokevirtual 399) := ⟨by decide +kernel, rfl⟩
theorem d_X12_towards_6 : kf_dj cX12_towards 6 9 18 (.ifCond .eq) := ⟨12, by decide +kernel, rfl, by decide⟩
theorem d_X12_towards_9 : kf_dq cX12_towards 9 10 1 (.iload_n 3) := ⟨by decide +kernel, rfl⟩
theorem d_X12_towards_10 : kf_dq cX12_towards 10 11 1 (.iconst 0) := ⟨by decide +kernel, rfl⟩
theorem d_X12_towards_11 : kf_dq cX12_towards 11 12 1 (.iconst 1) := ⟨by decide +kernel, rfl⟩
theorem d_X12_towards_12 : kf_dq cX12_towards 12 15 3 (.invokestatic 313) := ⟨by decide +kernel, rfl⟩
theorem d_X12_towards_15 : kf_dj cX12_towards 15 18 20 (.ifCond .ne) := ⟨5, by decide +kernel, rfl, by decide⟩
theorem d_X12_towards_18 : kf_dq cX12_towards 18 19 1 (.iconst (-1)) := ⟨by decide +kernel, rfl⟩
theorem d_X12_towards_19 : kf_dq cX12_towards 19 20 1 (.ireturn) := ⟨by decide +kernel, rfl⟩
theorem d_X12_towards_20 : kf_dq cX12_towards 20 21 1 (.iconst (-1)) := ⟨by decide +kernel, rfl⟩
theorem d_X12_towards_21 : kf_dq cX12_towards 21 23 2 (.istore 4) := ⟨by decide +kernel, rfl⟩
theorem d_X12_towards_23 : kf_dq cX12_towards 23 24 1 (.iconst 0) := ⟨by decide +kernel, rfl⟩
theorem d_X12_towards_24 : kf_dq cX12_towards 24 26 2 (.istore 5) := ⟨by decide +kernel, rfl⟩
theorem d_X12_towards_26 : kf_dq cX12_towards 26 27 1 (.iconst 0) := ⟨by decide +kernel, rfl⟩
theorem d_X12_towards_27 : kf_dq cX12_towards 27 29 2 (.istore 6) := ⟨by decide +kernel, rfl⟩
theorem d_X12_towards_29 : kf_dq cX12_towards 29 31 2 (.iload 6) := ⟨by decide +kernel, rfl⟩
theorem d_X12_towards_31 : kf_dq cX12_towards 31 32 1 (.aload_n 0) := ⟨by decide +kernel, rfl⟩
theorem d_X12_towards_32 : kf_dq cX12_towards 32 35 3 (.getfield 52) := ⟨by decide +kernel, rfl⟩
theorem d_X12_towards_35 : kf_dq cX12_towards 35 36 1 (.aload_n 0) := ⟨by decide +kernel, rfl⟩
theorem d_X12_towards_36 : kf_dq cX12_towards 36 39 3 (.getfield 233) := ⟨by decide +kernel, rfl⟩
theorem d_X12_towards_39 : kf_dq cX12_towards 39 40 1 (.iaload) := ⟨by decide +kernel, rfl⟩
theorem d_X12_towards_40 : kf_dj cX12_towards 40 43 91 (.if_icmp .ge) := ⟨51, by decide +kernel, rfl, by decide⟩
theorem d_X12_towards_43 : kf_dq cX12_towards 43 44 1 (.aload_n 0) := ⟨by decide +kernel, rfl⟩
theorem d_X12_towards_44 : kf_dq cX12_towards 44 47 3 (.invokevirtual 323) := ⟨by decide +kernel, rfl⟩
theorem d_X12_towards_47 : kf_dq cX12_towards 47 48 1 (.aload_n 0) := ⟨by decide +kernel, rfl⟩
theorem d_X12_towards_48 : kf_dq cX12_towards 48 49 1 (.iload_n 1) := ⟨by decide +kernel, rfl⟩
theorem d_X12_towards_49 : kf_dq cX12_towards 49 51 2 (.iload 6) := ⟨by decide +kernel, rfl⟩
theorem d_X12_towards_51 : kf_dq cX12_towards 51 54 3 (.invokevirtual 374) := ⟨by decide +kernel, rfl⟩
theorem d_X12_towards_54 : kf_dq cX12_towards 54 55 1 (.aload_n 0) := ⟨by decide +kernel, rfl⟩
theorem d_X12_towards_55 : kf_dq cX12_towards 55 56 1 (.iload_n 1) := ⟨by decide +kernel, rfl⟩
theorem d_X12_towards_56 : kf_dq cX12_towards 56 57 1 (.iload_n 2) := ⟨by decide +kernel, rfl⟩
theorem d_X12_towards_57 : kf_dq cX12_towards 57 60 3 (.invokevirtual 342) := ⟨by decide +kernel, rfl⟩
theorem d_X12_towards_60 : kf_dq cX12_towards 60 62 2 (.istore 7) := ⟨by decide +kernel, rfl⟩
theorem d_X12_towards_62 : kf_dq cX12_towards 62 64 2 (.iload 4) := ⟨by decide +kernel, rfl⟩
theorem d_X12_towards_64 : kf_dj cX12_towards 64 67 77 (.ifCond .lt) := ⟨13, by decide +kernel, rfl, by decide⟩
theorem d_X12_towards_67 : kf_dq cX12_towards 67 69 2 (.iload 7) := ⟨by decide +kernel, rfl⟩
theorem d_X12_towards_69 : kf_dq cX12_towards 69 71 2 (.iload 5) := ⟨by decide +kernel, rfl⟩
theorem d_X12_towards_71 : kf_dj cX12_towards 71 74 77 (.if_icmp .lt) := ⟨6, by decide +kernel, rfl, by decide⟩
theorem d_X12_towards_74 : kf_dj cX12_towards 74 77 85 .goto := ⟨11, by decide +kernel, rfl, by decide⟩
theorem d_X12_towards_77 : kf_dq cX12_towards 77 79 2 (.iload 6) := ⟨by decide +kernel, rfl⟩
theorem d_X12_towards_79 : kf_dq cX12_towards 79 81 2 (.istore 4) := ⟨by decide +kernel, rfl⟩
theorem d_X12_towards_81 : kf_dq cX12_towards 81 83 2 (.iload 7) := ⟨by decide +kernel, rfl⟩
theorem d_X12_towards_83 : kf_dq cX12_towards 83 85 2 (.istore 5) := ⟨by decide +kernel, rfl⟩
theorem d_X12_towards_85 : kf_dq cX12_towards 85 88 3 (.iinc 6 1) := ⟨by decide +kernel, rfl⟩
theorem d_X12_towards_88 : kf_dj cX12_towards 88 91 29 .goto := ⟨(-59), by decide +kernel, rfl, by decide⟩
theorem d_X12_towards_91 : kf_dq cX12_towards 91 92 1 (.iload_n 3) := ⟨by decide +kernel, rfl⟩
theorem d_X12_towards_92 : kf_dj cX12_towards 92 95 100 (.ifCond .ne) := ⟨8, by decide +kernel, rfl, by decide⟩
theorem d_X12_towards_95 : kf_dq cX12_towards 95 97 2 (.iload 4) := ⟨by decide +kernel, rfl⟩
theorem d_X12_towards_97 : kf_dj cX12_towards 97 100 102 .goto := ⟨5, by decide +kernel, rfl, by decide⟩
theorem d_X12_towards_100 : kf_dq cX12_towards 100 102 2 (.iload 5) := ⟨by decide +kernel, rfl⟩
theorem d_X12_towards_102 : kf_dq cX12_towards 102 103 1 (.ireturn) := ⟨by decide +kernel, rfl⟩
def f_X12_towards_85 (rec29 : Nat → Int32 → Int32 → Int32 → Int32 → Int32 → Int32 → kf_St → Option (Int32 × kf_St)) (v0 : Nat) (v1 : Int32) (v2 : Int32) (v3 : Int32) (v4 : Int32) (v5 : Int32) (v6 : Int32) (σ : kf_St) : Option (Int32 × kf_St) :=
  kf_lt (v6 + 1) fun v6_1 =>
  rec29 v0 v1 v2 v3 v4 v5 v6_1 σ
set_option maxRecDepth 100000 in
set_option maxHeartbeats 4000000 in
theorem b_X12_towards_85 {X : kf_X} {G : kf_G} {rec29 : Nat → Int32 → Int32 → Int32 → Int32 → Int32 → Int32 → kf_St → Option (Int32 × kf_St)} {q : (Int32 × kf_St)} (E : kf_ok X G cX12_towards RX12 8 (some .int) (5)) (hty : kf_wt G) (hrec29 : ∀ (v0 : Nat) (v1 : Int32) (v2 : Int32) (v3 : Int32) (v4 : Int32) (v5 : Int32) (v6 : Int32) (k_v0 : kf_kd G v0 = 13) (σ : kf_St), rec29 v0 v1 v2 v3 v4 v5 v6 σ = some q → kf_WA X G 8 (kf_Q X G (some (.int q.1)) q.2) 29 [(0, .ref (kf_ad G v0)), (1, .int v1), (2, .int v2), (3, .int v3), (4, .int v4), (5, .int v5), (6, .int v6)] [] σ) (v0 : Nat) (v1 : Int32) (v2 : Int32) (v3 : Int32) (v4 : Int32) (v5 : Int32) (v6 : Int32) (k_v0 : kf_kd G v0 = 13) (σ : kf_St) (h : f_X12_towards_85 rec29 v0 v1 v2 v3 v4 v5 v6 σ = some q) : kf_WA X G 8 (kf_Q X G (some (.int q.1)) q.2) 85 [(0, .ref (kf_ad G v0)), (1, .int v1), (2, .int v2), (3, .int v3), (4, .int v4), (5, .int v5), (6, .int v6)] [] σ := by
  unfold f_X12_towards_85 at h
  obtain ⟨v6_1, ev6_1, h⟩ := kf_lte h
  refine wa_iinc (lv' := [(6, .int v6_1), (0, .ref (kf_ad G v0)), (1, .int v1), (2, .int v2), (3, .int v3), (4, .int v4), (5, .int v5)]) v6_1 6 rfl (kf_inc ic_1 ev6_1) (by decide) rfl E d_X12_towards_85 ?_
  refine wa_goto E d_X12_towards_88 ?_
  refine wa_sub [1, 2, 3, 4, 5, 6, 0] rfl ?_
  exact hrec29 v0 v1 v2 v3 v4 v5 v6_1 k_v0 σ h
def f_X12_towards_77 (rec29 : Nat → Int32 → Int32 → Int32 → Int32 → Int32 → Int32 → kf_St → Option (Int32 × kf_St)) (v0 : Nat) (v1 : Int32) (v2 : Int32) (v3 : Int32) (v6 : Int32) (v7 : Int32) (σ : kf_St) : Option (Int32 × kf_St) :=
  f_X12_towards_85 rec29 v0 v1 v2 v3 v6 v7 v6 σ
set_option maxRecDepth 100000 in
set_option maxHeartbeats 4000000 in
theorem b_X12_towards_77 {X : kf_X} {G : kf_G} {rec29 : Nat → Int32 → Int32 → Int32 → Int32 → Int32 → Int32 → kf_St → Option (Int32 × kf_St)} {q : (Int32 × kf_St)} (E : kf_ok X G cX12_towards RX12 8 (some .int) (5)) (hty : kf_wt G) (hrec29 : ∀ (v0 : Nat) (v1 : Int32) (v2 : Int32) (v3 : Int32) (v4 : Int32) (v5 : Int32) (v6 : Int32) (k_v0 : kf_kd G v0 = 13) (σ : kf_St), rec29 v0 v1 v2 v3 v4 v5 v6 σ = some q → kf_WA X G 8 (kf_Q X G (some (.int q.1)) q.2) 29 [(0, .ref (kf_ad G v0)), (1, .int v1), (2, .int v2), (3, .int v3), (4, .int v4), (5, .int v5), (6, .int v6)] [] σ) (v0 : Nat) (v1 : Int32) (v2 : Int32) (v3 : Int32) (v6 : Int32) (v7 : Int32) (k_v0 : kf_kd G v0 = 13) (σ : kf_St) (h : f_X12_towards_77 rec29 v0 v1 v2 v3 v6 v7 σ = some q) : kf_WA X G 8 (kf_Q X G (some (.int q.1)) q.2) 77 [(0, .ref (kf_ad G v0)), (1, .int v1), (2, .int v2), (3, .int v3), (6, .int v6), (7, .int v7)] [] σ := by
  unfold f_X12_towards_77 at h
  refine wa_iload 4 rfl E d_X12_towards_77 ?_
  refine wa_istore (lv' := [(4, .int v6), (0, .ref (kf_ad G v0)), (1, .int v1), (2, .int v2), (3, .int v3), (6, .int v6), (7, .int v7)]) (by decide) rfl E d_X12_towards_79 ?_
  refine wa_iload 6 rfl E d_X12_towards_81 ?_
  refine wa_istore (lv' := [(5, .int v7), (4, .int v6), (0, .ref (kf_ad G v0)), (1, .int v1), (2, .int v2), (3, .int v3), (6, .int v6), (7, .int v7)]) (by decide) rfl E d_X12_towards_83 ?_
  refine wa_sub [2, 3, 4, 5, 1, 0, 6] rfl ?_
  exact b_X12_towards_85 E hty hrec29 v0 v1 v2 v3 v6 v7 v6 k_v0 σ h
def f_X12_towards_29_s (rec29 : Nat → Int32 → Int32 → Int32 → Int32 → Int32 → Int32 → kf_St → Option (Int32 × kf_St)) (v0 : Nat) (v1 : Int32) (v2 : Int32) (v3 : Int32) (v4 : Int32) (v5 : Int32) (v6 : Int32) (σ : kf_St) : Option (Int32 × kf_St) :=
  if kf_ix (σ.1 v0 18) (kf_ln (kf_rf v0 25)) = true then
  if (σ.1 (kf_rf v0 25) (Int32.toNatClampNeg (σ.1 v0 18))) ≤ v6 then
    if v3 = 0 then
      some (v4, σ)
    else
      some (v5, σ)
  else
    (f_X12_copies v0 σ).bind fun q_4 =>
    (f_X12_lifted v0 v1 v6 q_4).bind fun q_5 =>
    (f_X12_unlikeTo v0 v1 v2 q_5).bind fun q_6 =>
    if v4 < 0 then
      f_X12_towards_77 rec29 v0 v1 v2 v3 v6 q_6.1 q_6.2
    else
      if q_6.1 < v5 then
        f_X12_towards_77 rec29 v0 v1 v2 v3 v6 q_6.1 q_6.2
      else
        f_X12_towards_85 rec29 v0 v1 v2 v3 v4 v5 v6 q_6.2
  else none
def f_X12_towards_29 : Nat → Nat → Int32 → Int32 → Int32 → Int32 → Int32 → Int32 → kf_St → Option (Int32 × kf_St)
  | 0, _, _, _, _, _, _, _, _ => none
  | n + 1, v0, v1, v2, v3, v4, v5, v6, σ => f_X12_towards_29_s (f_X12_towards_29 n) v0 v1 v2 v3 v4 v5 v6 σ
set_option maxRecDepth 100000 in
set_option maxHeartbeats 4000000 in
theorem b_X12_towards_29_s {X : kf_X} {G : kf_G} (rec29 : Nat → Int32 → Int32 → Int32 → Int32 → Int32 → Int32 → kf_St → Option (Int32 × kf_St)) {q : (Int32 × kf_St)} (E : kf_ok X G cX12_towards RX12 8 (some .int) (5)) (hty : kf_wt G) (hrec29 : ∀ (v0 : Nat) (v1 : Int32) (v2 : Int32) (v3 : Int32) (v4 : Int32) (v5 : Int32) (v6 : Int32) (k_v0 : kf_kd G v0 = 13) (σ : kf_St), rec29 v0 v1 v2 v3 v4 v5 v6 σ = some q → kf_WA X G 8 (kf_Q X G (some (.int q.1)) q.2) 29 [(0, .ref (kf_ad G v0)), (1, .int v1), (2, .int v2), (3, .int v3), (4, .int v4), (5, .int v5), (6, .int v6)] [] σ) (v0 : Nat) (v1 : Int32) (v2 : Int32) (v3 : Int32) (v4 : Int32) (v5 : Int32) (v6 : Int32) (k_v0 : kf_kd G v0 = 13) (σ : kf_St) (h : f_X12_towards_29_s rec29 v0 v1 v2 v3 v4 v5 v6 σ = some q) : kf_WA X G 8 (kf_Q X G (some (.int q.1)) q.2) 29 [(0, .ref (kf_ad G v0)), (1, .int v1), (2, .int v2), (3, .int v3), (4, .int v4), (5, .int v5), (6, .int v6)] [] σ := by
  unfold f_X12_towards_29_s at h
  refine wa_iload 6 rfl E d_X12_towards_29 ?_
  refine wa_aload_n 0 rfl E d_X12_towards_31 ?_
  refine wa_getR fl_X12_52 k_v0 rfl E d_X12_towards_32 ?_
  refine wa_aload_n 0 rfl E d_X12_towards_35 ?_
  refine wa_getI fl_X12_233 k_v0 rfl E d_X12_towards_36 ?_
  obtain ⟨g_1, h⟩ := kf_gd h
  refine wa_iald (kf_wtf hty 25 49 k_v0 (by decide) rfl) g_1 E d_X12_towards_39 ?_
  refine wa_icmp_ge E d_X12_towards_40 (fun c_2 => ?_) (fun c_2 => ?_)
  · replace h := kf_ift c_2 h
    refine wa_iload_n 3 rfl E d_X12_towards_91 ?_
    refine wa_if_ne E d_X12_towards_92 (fun c_3 => ?_) (fun c_3 => ?_)
    · replace h := kf_iff c_3 h
      refine wa_iload 5 rfl E d_X12_towards_100 ?_
      cases h
      exact wa_iret E d_X12_towards_102
    · replace h := kf_ift c_3 h
      refine wa_iload 4 rfl E d_X12_towards_95 ?_
      refine wa_goto E d_X12_towards_97 ?_
      cases h
      exact wa_iret E d_X12_towards_102
  · replace h := kf_iff c_2 h
    refine wa_aload_n 0 rfl E d_X12_towards_43 ?_
    obtain ⟨q_4, hq_4, h⟩ := kf_bd h
    refine wa_callV (st2 := []) (c_X12_copies hty v0 k_v0 σ hq_4) mv_X12_copies ml_X12_323 k_v0 rfl (Nat.le_of_ble_eq_true rfl) rfl (Nat.le_of_ble_eq_true rfl) E d_X12_towards_44 rfl ?_
    refine wa_aload_n 0 rfl E d_X12_towards_47 ?_
    refine wa_iload_n 1 rfl E d_X12_towards_48 ?_
    refine wa_iload 6 rfl E d_X12_towards_49 ?_
    obtain ⟨q_5, hq_5, h⟩ := kf_bd h
    refine wa_callV (st2 := []) (c_X12_lifted hty v0 v1 v6 k_v0 q_4 hq_5) mv_X12_lifted ml_X12_374 k_v0 rfl (Nat.le_of_ble_eq_true rfl) rfl (Nat.le_of_ble_eq_true rfl) E d_X12_towards_51 rfl ?_
    refine wa_aload_n 0 rfl E d_X12_towards_54 ?_
    refine wa_iload_n 1 rfl E d_X12_towards_55 ?_
    refine wa_iload_n 2 rfl E d_X12_towards_56 ?_
    obtain ⟨q_6, hq_6, h⟩ := kf_bd h
    refine wa_callV (st2 := [.int q_6.1]) (c_X12_unlikeTo hty v0 v1 v2 k_v0 q_5 hq_6) mv_X12_unlikeTo ml_X12_342 k_v0 rfl (Nat.le_of_ble_eq_true rfl) rfl (Nat.le_of_ble_eq_true rfl) E d_X12_towards_57 rfl ?_
    refine wa_istore (lv' := [(7, .int q_6.1), (0, .ref (kf_ad G v0)), (1, .int v1), (2, .int v2), (3, .int v3), (4, .int v4), (5, .int v5), (6, .int v6)]) (by decide) rfl E d_X12_towards_60 ?_
    refine wa_iload 5 rfl E d_X12_towards_62 ?_
    refine wa_if_lt E d_X12_towards_64 (fun c_7 => ?_) (fun c_7 => ?_)
    · replace h := kf_ift c_7 h
      refine wa_sub [1, 2, 3, 4, 7, 0] rfl ?_
      exact b_X12_towards_77 E hty hrec29 v0 v1 v2 v3 v6 q_6.1 k_v0 q_6.2 h
    · replace h := kf_iff c_7 h
      refine wa_iload 0 rfl E d_X12_towards_67 ?_
      refine wa_iload 6 rfl E d_X12_towards_69 ?_
      refine wa_icmp_lt E d_X12_towards_71 (fun c_8 => ?_) (fun c_8 => ?_)
      · replace h := kf_ift c_8 h
        refine wa_sub [1, 2, 3, 4, 7, 0] rfl ?_
        exact b_X12_towards_77 E hty hrec29 v0 v1 v2 v3 v6 q_6.1 k_v0 q_6.2 h
      · replace h := kf_iff c_8 h
        refine wa_goto E d_X12_towards_74 ?_
        refine wa_sub [1, 2, 3, 4, 5, 6, 7] rfl ?_
        exact b_X12_towards_85 E hty hrec29 v0 v1 v2 v3 v4 v5 v6 k_v0 q_6.2 h
theorem b_X12_towards_29 {X : kf_X} {G : kf_G} {q : (Int32 × kf_St)} (E : kf_ok X G cX12_towards RX12 8 (some .int) (5)) (hty : kf_wt G) : ∀ (N : Nat) (v0 : Nat) (v1 : Int32) (v2 : Int32) (v3 : Int32) (v4 : Int32) (v5 : Int32) (v6 : Int32) (k_v0 : kf_kd G v0 = 13) (σ : kf_St) (_ : f_X12_towards_29 N v0 v1 v2 v3 v4 v5 v6 σ = some q), kf_WA X G 8 (kf_Q X G (some (.int q.1)) q.2) 29 [(0, .ref (kf_ad G v0)), (1, .int v1), (2, .int v2), (3, .int v3), (4, .int v4), (5, .int v5), (6, .int v6)] [] σ
  | 0, _, _, _, _, _, _, _, _, _, h => by cases h
  | N + 1, v0, v1, v2, v3, v4, v5, v6, k_v0, σ, h => b_X12_towards_29_s _ E hty (b_X12_towards_29 E hty N) v0 v1 v2 v3 v4 v5 v6 k_v0 σ h
def f_X12_towards (v0 : Nat) (v1 : Int32) (v2 : Int32) (v3 : Int32) (σ : kf_St) : Option (Int32 × kf_St) :=
  (f_X12_areBoth v0 v1 v2 σ).bind fun q_1 =>
  if q_1.1 = 0 then
    some ((-1), q_1.2)
  else
    (f_X12_in v3 0 1 q_1.2).bind fun q_3 =>
    if q_3.1 = 0 then
      some ((-1), q_3.2)
    else
      f_X12_towards_29 kf_F v0 v1 v2 v3 (-1) 0 0 q_3.2
set_option maxRecDepth 100000 in
set_option maxHeartbeats 4000000 in
theorem c_X12_towards {G : kf_G} (hty : kf_wt G) (v0 : Nat) (v1 : Int32) (v2 : Int32) (v3 : Int32) (k_v0 : kf_kd G v0 = 13) (σ : kf_St) {q : (Int32 × kf_St)} (h : f_X12_towards v0 v1 v2 v3 σ = some q) : kf_Ct (5) yX12_towards cX12_towards 8 (some .int) G [.ref (kf_ad G v0), .int v1, .int v2, .int v3] σ (some (.int q.1)) q.2 := by
  refine kf_Ct.of hty.1 (lv := [(0, .ref (kf_ad G v0)), (1, .int v1), (2, .int v2), (3, .int v3)]) (by decide +kernel) rfl (Nat.le_of_ble_eq_true rfl) (fun X E => ?_)
  unfold f_X12_towards at h
  refine wa_aload_n 0 rfl E d_X12_towards_0 ?_
  refine wa_iload_n 1 rfl E d_X12_towards_1 ?_
  refine wa_iload_n 2 rfl E d_X12_towards_2 ?_
  obtain ⟨q_1, hq_1, h⟩ := kf_bd h
  refine wa_callV (st2 := [.int q_1.1]) (c_X12_areBoth hty v0 v1 v2 k_v0 σ hq_1) mv_X12_areBoth ml_X12_399 k_v0 rfl (Nat.le_of_ble_eq_true rfl) rfl (Nat.le_of_ble_eq_true rfl) E d_X12_towards_3 rfl ?_
  refine wa_if_eq E d_X12_towards_6 (fun c_2 => ?_) (fun c_2 => ?_)
  · replace h := kf_ift c_2 h
    refine wa_iconst (-1) ic_m1 E d_X12_towards_18 ?_
    cases h
    exact wa_iret E d_X12_towards_19
  · replace h := kf_iff c_2 h
    refine wa_iload_n 3 rfl E d_X12_towards_9 ?_
    refine wa_iconst 0 ic_0 E d_X12_towards_10 ?_
    refine wa_iconst 1 ic_1 E d_X12_towards_11 ?_
    obtain ⟨q_3, hq_3, h⟩ := kf_bd h
    refine wa_callS (st2 := [.int q_3.1]) (c_X12_in hty v3 0 1 q_1.2 hq_3) mt_X12_in ml_X12_313 rfl (Nat.le_of_ble_eq_true rfl) rfl (Nat.le_of_ble_eq_true rfl) E d_X12_towards_12 rfl ?_
    refine wa_if_ne E d_X12_towards_15 (fun c_4 => ?_) (fun c_4 => ?_)
    · replace h := kf_iff c_4 h
      refine wa_iconst (-1) ic_m1 E d_X12_towards_20 ?_
      refine wa_istore (lv' := [(4, .int (-1)), (0, .ref (kf_ad G v0)), (1, .int v1), (2, .int v2), (3, .int v3)]) (by decide) rfl E d_X12_towards_21 ?_
      refine wa_iconst 0 ic_0 E d_X12_towards_23 ?_
      refine wa_istore (lv' := [(5, .int 0), (4, .int (-1)), (0, .ref (kf_ad G v0)), (1, .int v1), (2, .int v2), (3, .int v3)]) (by decide) rfl E d_X12_towards_24 ?_
      refine wa_iconst 0 ic_0 E d_X12_towards_26 ?_
      refine wa_istore (lv' := [(6, .int 0), (5, .int 0), (4, .int (-1)), (0, .ref (kf_ad G v0)), (1, .int v1), (2, .int v2), (3, .int v3)]) (by decide) rfl E d_X12_towards_27 ?_
      refine wa_sub [3, 4, 5, 6, 2, 1, 0] rfl ?_
      exact b_X12_towards_29 E hty kf_F v0 v1 v2 v3 (-1) 0 0 k_v0 q_3.2 h
    · replace h := kf_ift c_4 h
      refine wa_iconst (-1) ic_m1 E d_X12_towards_18 ?_
      cases h
      exact wa_iret E d_X12_towards_19
