/-! X12_read -/
theorem d_X12_read_0 : kf_dq cX12_read 0 1 1 (.aload_n 0) := ⟨by decide +kernel, rfl⟩
theorem d_X12_read_1 : kf_dq cX12_read 1 2 1 (.aload_n 0) := ⟨by decide +kernel, rfl⟩
theorem d_X12_read_2 : kf_dq cX12_read 2 5 3 (.getfield 166) := ⟨by decide +kernel, rfl⟩
theorem d_X12_read_5 : kf_dq cX12_read 5 8 3 (.putfield 172) := ⟨by decide +kernel, rfl⟩
theorem d_X12_read_8 : kf_dq cX12_read 8 9 1 (.iconst 0) := ⟨by decide +kernel, rfl⟩
theorem d_X12_read_9 : kf_dq cX12_read 9 10 1 (.istore_n 1) := ⟨by decide +kernel, rfl⟩
theorem d_X12_read_10 : kf_dq cX12_read 10 11 1 (.iload_n 1) := ⟨by decide +kernel, rfl⟩
theorem d_X12_read_11 : kf_dq cX12_read 11 12 1 (.aload_n 0) := ⟨by decide +kernel, rfl⟩
theorem d_X12_read_12 : kf_dq cX12_read 12 15 3 (.getfield 172) := ⟨by decide +kernel, rfl⟩
theorem d_X12_read_15 : kf_dj cX12_read 15 18 36 (.if_icmp .ge) := ⟨21, by decide +kernel, rfl, by decide⟩
theorem d_X12_read_18 : kf_dq cX12_read 18 19 1 (.aload_n 0) := ⟨by decide +kernel, rfl⟩
theorem d_X12_read_19 : kf_dq cX12_read 19 22 3 (.getfield 17) := ⟨by decide +kernel, rfl⟩
theorem d_X12_read_22 : kf_dq cX12_read 22 23 1 (.iload_n 1) := ⟨by decide +kernel, rfl⟩
theorem d_X12_read_23 : kf_dq cX12_read 23 24 1 (.aload_n 0) := ⟨by decide +kernel, rfl⟩
theorem d_X12_read_24 : kf_dq cX12_read 24 27 3 (.getfield 13) := ⟨by decide +kernel, rfl⟩
theorem d_X12_read_27 : kf_dq cX12_read 27 28 1 (.iload_n 1) := ⟨by decide +kernel, rfl⟩
theorem d_X12_read_28 : kf_dq cX12_read 28 29 1 (.baload) := ⟨by decide +kernel, rfl⟩
theorem d_X12_read_29 : kf_dq cX12_read 29 30 1 (.bastore) := ⟨by decide +kernel, rfl⟩
theorem d_X12_read_30 : kf_dq cX12_read 30 33 3 (.iinc 1 1) := ⟨by decide +kernel, rfl⟩
theorem d_X12_read_33 : kf_dj cX12_read 33 36 10 .goto := ⟨(-23), by decide +kernel, rfl, by decide⟩
theorem d_X12_read_36 : kf_dq cX12_read 36 37 1 (.aload_n 0) := ⟨by decide +kernel, rfl⟩
theorem d_X12_read_37 : kf_dq cX12_read 37 38 1 (.iconst 0) := ⟨by decide +kernel, rfl⟩
theorem d_X12_read_38 : kf_dq cX12_read 38 41 3 (.putfield 166) := ⟨by decide +kernel, rfl⟩
theorem d_X12_read_41 : kf_dq cX12_read 41 42 1 (.aload_n 0) := ⟨by decide +kernel, rfl⟩
theorem d_X12_read_42 : kf_dq cX12_read 42 45 3 (.invokevirtual 227) := ⟨by decide +kernel, rfl⟩
theorem d_X12_read_45 : kf_dq cX12_read 45 46 1 (.aload_n 0) := ⟨by decide +kernel, rfl⟩
theorem d_X12_read_46 : kf_dq cX12_read 46 47 1 (.iconst 0) := ⟨by decide +kernel, rfl⟩
theorem d_X12_read_47 : kf_dq cX12_read 47 50 3 (.putfield 206) := ⟨by decide +kernel, rfl⟩
theorem d_X12_read_50 : kf_dq cX12_read 50 51 1 (.aload_n 0) := ⟨by decide +kernel, rfl⟩
theorem d_X12_read_51 : kf_dq cX12_read 51 52 1 (.iconst 0) := ⟨by decide +kernel, rfl⟩
theorem d_X12_read_52 : kf_dq cX12_read 52 55 3 (.putfield 230) := ⟨by decide +kernel, rfl⟩
theorem d_X12_read_55 : kf_dq cX12_read 55 56 1 (.aload_n 0) := ⟨by decide +kernel, rfl⟩
theorem d_X12_read_56 : kf_dq cX12_read 56 57 1 (.iconst 0) := ⟨by decide +kernel, rfl⟩
theorem d_X12_read_57 : kf_dq cX12_read 57 60 3 (.putfield 203) := ⟨by decide +kernel, rfl⟩
theorem d_X12_read_60 : kf_dq cX12_read 60 61 1 (.aload_n 0) := ⟨by decide +kernel, rfl⟩
theorem d_X12_read_61 : kf_dq cX12_read 61 62 1 (.iconst 0) := ⟨by decide +kernel, rfl⟩
theorem d_X12_read_62 : kf_dq cX12_read 62 65 3 (.putfield 212) := ⟨by decide +kernel, rfl⟩
theorem d_X12_read_65 : kf_dq cX12_read 65 66 1 (.aload_n 0) := ⟨by decide +kernel, rfl⟩
theorem d_X12_read_66 : kf_dq cX12_read 66 67 1 (.iconst 1) := ⟨by decide +kernel, rfl⟩
theorem d_X12_read_67 : kf_dq cX12_read 67 68 1 (.aload_n 0) := ⟨by decide +kernel, rfl⟩
theorem d_X12_read_68 : kf_dq cX12_read 68 71 3 (.getfield 233) := ⟨by decide +kernel, rfl⟩
theorem d_X12_read_71 : kf_dq cX12_read 71 72 1 (.isub) := ⟨by decide +kernel, rfl⟩
theorem d_X12_read_72 : kf_dq cX12_read 72 75 3 (.putfield 236) := ⟨by decide +kernel, rfl⟩
theorem d_X12_read_75 : kf_dq cX12_read 75 76 1 (.aload_n 0) := ⟨by decide +kernel, rfl⟩
theorem d_X12_read_76 : kf_dq cX12_read 76 77 1 (.iconst 0) := ⟨by decide +kernel, rfl⟩
theorem d_X12_read_77 : kf_dq cX12_read 77 80 3 (.putfield 239) := ⟨by decide +kernel, rfl⟩
theorem d_X12_read_80 : kf_dq cX12_read 80 81 1 (.aload_n 0) := ⟨by decide +kernel, rfl⟩
theorem d_X12_read_81 : kf_dq cX12_read 81 82 1 (.aload_n 0) := ⟨by decide +kernel, rfl⟩
theorem d_X12_read_82 : kf_dq cX12_read 82 85 3 (.getfield 236) := ⟨by decide +kernel, rfl⟩
theorem d_X12_read_85 : kf_dq cX12_read 85 88 3 (.invokevirtual 152) := ⟨by decide +kernel, rfl⟩
theorem d_X12_read_88 : kf_dq cX12_read 88 89 1 (.aload_n 0) := ⟨by decide +kernel, rfl⟩
theorem d_X12_read_89 : kf_dq cX12_read 89 92 3 (.sipush 130) := ⟨by decide +kernel, rfl⟩
theorem d_X12_read_92 : kf_dq cX12_read 92 93 1 (.aload_n 0) := ⟨by decide +kernel, rfl⟩
theorem d_X12_read_93 : kf_dq cX12_read 93 96 3 (.getfield 236) := ⟨by decide +kernel, rfl⟩
theorem d_X12_read_96 : kf_dq cX12_read 96 97 1 (.imul) := ⟨by decide +kernel, rfl⟩
theorem d_X12_read_97 : kf_dq cX12_read 97 100 3 (.putfield 242) := ⟨by decide +kernel, rfl⟩
theorem d_X12_read_100 : kf_dq cX12_read 100 101 1 (.aload_n 0) := ⟨by decide +kernel, rfl⟩
theorem d_X12_read_101 : kf_dq cX12_read 101 104 3 (.sipush 420) := ⟨by decide +kernel, rfl⟩
theorem d_X12_read_104 : kf_dq cX12_read 104 105 1 (.aload_n 0) := ⟨by decide +kernel, rfl⟩
theorem d_X12_read_105 : kf_dq cX12_read 105 108 3 (.getfield 236) := ⟨by decide +kernel, rfl⟩
theorem d_X12_read_108 : kf_dq cX12_read 108 109 1 (.imul) := ⟨by decide +kernel, rfl⟩
theorem d_X12_read_109 : kf_dq cX12_read 109 112 3 (.putfield 245) := ⟨by decide +kernel, rfl⟩
theorem d_X12_read_112 : kf_dq cX12_read 112 113 1 (.aload_n 0) := ⟨by decide +kernel, rfl⟩
theorem d_X12_read_113 : kf_dq cX12_read 113 116 3 (.getfield 203) := ⟨by decide +kernel, rfl⟩
theorem d_X12_read_116 : kf_dj cX12_read 116 119 134 (.ifCond .ne) := ⟨18, by decide +kernel, rfl, by decide⟩
theorem d_X12_read_119 : kf_dq cX12_read 119 120 1 (.aload_n 0) := ⟨by decide +kernel, rfl⟩
theorem d_X12_read_120 : kf_dq cX12_read 120 121 1 (.iconst 0) := ⟨by decide +kernel, rfl⟩
theorem d_X12_read_121 : kf_dq cX12_read 121 124 3 (.invokevirtual 221) := ⟨by decide +kernel, rfl⟩
theorem d_X12_read_124 : kf_dj cX12_read 124 127 134 (.ifCond .ne) := ⟨10, by decide +kernel, rfl, by decide⟩
theorem d_X12_read_127 : kf_dq cX12_read 127 128 1 (.aload_n 0) := ⟨by decide +kernel, rfl⟩
theorem d_X12_read_128 : kf_dq cX12_read 128 131 3 (.invokevirtual 248) := ⟨by decide +kernel, rfl⟩
theorem d_X12_read_131 : kf_dj cX12_read 131 134 112 .goto := ⟨(-19), by decide +kernel, rfl, by decide⟩
theorem d_X12_read_134 : kf_dq cX12_read 134 135 1 (.aload_n 0) := ⟨by decide +kernel, rfl⟩
theorem d_X12_read_135 : kf_dq cX12_read 135 136 1 (.aload_n 0) := ⟨by decide +kernel, rfl⟩
theorem d_X12_read_136 : kf_dq cX12_read 136 139 3 (.getfield 203) := ⟨by decide +kernel, rfl⟩
theorem d_X12_read_139 : kf_dj cX12_read 139 142 149 (.ifCond .le) := ⟨10, by decide +kernel, rfl, by decide⟩
theorem d_X12_read_142 : kf_dq cX12_read 142 143 1 (.aload_n 0) := ⟨by decide +kernel, rfl⟩
theorem d_X12_read_143 : kf_dq cX12_read 143 146 3 (.getfield 209) := ⟨by decide +kernel, rfl⟩
theorem d_X12_read_146 : kf_dj cX12_read 146 149 164 .goto := ⟨18, by decide +kernel, rfl, by decide⟩
theorem d_X12_read_149 : kf_dq cX12_read 149 150 1 (.aload_n 0) := ⟨by decide +kernel, rfl⟩
theorem d_X12_read_150 : kf_dq cX12_read 150 153 3 (.getfield 212) := ⟨by decide +kernel, rfl⟩
theorem d_X12_read_153 : kf_dj cX12_read 153 156 163 (.ifCond .le) := ⟨10, by decide +kernel, rfl, by decide⟩
theorem d_X12_read_156 : kf_dq cX12_read 156 157 1 (.aload_n 0) := ⟨by decide +kernel, rfl⟩
theorem d_X12_read_157 : kf_dq cX12_read 157 160 3 (.getfield 215) := ⟨by decide +kernel, rfl⟩
theorem d_X12_read_160 : kf_dj cX12_read 160 163 164 .goto := ⟨4, by decide +kernel, rfl, by decide⟩
theorem d_X12_read_163 : kf_dq cX12_read 163 164 1 (.iconst (-1)) := ⟨by decide +kernel, rfl⟩
theorem d_X12_read_164 : kf_dq cX12_read 164 167 3 (.putfield 37) := ⟨by decide +kernel, rfl⟩
theorem d_X12_read_167 : kf_dq cX12_read 167 168 1 (.aload_n 0) := ⟨by decide +kernel, rfl⟩
theorem d_X12_read_168 : kf_dq cX12_read 168 171 3 (.getfield 203) := ⟨by decide +kernel, rfl⟩
theorem d_X12_read_171 : kf_dj cX12_read 171 174 179 (.ifCond .le) := ⟨8, by decide +kernel, rfl, by decide⟩
theorem d_X12_read_174 : kf_dq cX12_read 174 175 1 (.aload_n 0) := ⟨by decide +kernel, rfl⟩
theorem d_X12_read_175 : kf_dq cX12_read 175 178 3 (.getfield 203) := ⟨by decide +kernel, rfl⟩
theorem d_X12_read_178 : kf_dq cX12_read 178 179 1 (.ireturn) := ⟨by decide +kernel, rfl⟩
theorem d_X12_read_179 : kf_dq cX12_read 179 180 1 (.aload_n 0) := ⟨by decide +kernel, rfl⟩
theorem d_X12_read_180 : kf_dq cX12_read 180 183 3 (.getfield 212) := ⟨by decide +kernel, rfl⟩
theorem d_X12_read_183 : kf_dj cX12_read 183 186 191 (.ifCond .le) := ⟨8, by decide +kernel, rfl, by decide⟩
theorem d_X12_read_186 : kf_dq cX12_read 186 187 1 (.aload_n 0) := ⟨by decide +kernel, rfl⟩
theorem d_X12_read_187 : kf_dq cX12_read 187 190 3 (.getfield 212) := ⟨by decide +kernel, rfl⟩
theorem d_X12_read_190 : kf_dq cX12_read 190 191 1 (.ireturn) := ⟨by decide +kernel, rfl⟩
theorem d_X12_read_191 : kf_dq cX12_read 191 192 1 (.aload_n 0) := ⟨by decide +kernel, rfl⟩
theorem d_X12_read_192 : kf_dq cX12_read 192 193 1 (.aload_n 0) := ⟨by decide +kernel, rfl⟩
theorem d_X12_read_193 : kf_dq cX12_read 193 196 3 (.getfield 236) := ⟨by decide +kernel, rfl⟩
theorem d_X12_read_196 : kf_dq cX12_read 196 199 3 (.putfield 233) := ⟨by decide +kernel, rfl⟩
theorem d_X12_read_199 : kf_dq cX12_read 199 200 1 (.aload_n 0) := ⟨by decide +kernel, rfl⟩
theorem d_X12_read_200 : kf_dq cX12_read 200 203 3 (.invokevirtual 160) := ⟨by decide +kernel, rfl⟩
theorem d_X12_read_203 : kf_dq cX12_read 203 204 1 (.aload_n 0) := ⟨by decide +kernel, rfl⟩
theorem d_X12_read_204 : kf_dq cX12_read 204 207 3 (.invokevirtual 163) := ⟨by decide +kernel, rfl⟩
theorem d_X12_read_207 : kf_dq cX12_read 207 208 1 (.aload_n 0) := ⟨by decide +kernel, rfl⟩
theorem d_X12_read_208 : kf_dq cX12_read 208 209 1 (.iconst 0) := ⟨by decide +kernel, rfl⟩
theorem d_X12_read_209 : kf_dq cX12_read 209 212 3 (.putfield 251) := ⟨by decide +kernel, rfl⟩
theorem d_X12_read_212 : kf_dq cX12_read 212 213 1 (.aload_n 0) := ⟨by decide +kernel, rfl⟩
theorem d_X12_read_213 : kf_dq cX12_read 213 214 1 (.iconst 0) := ⟨by decide +kernel, rfl⟩
theorem d_X12_read_214 : kf_dq cX12_read 214 217 3 (.putfield 254) := ⟨by decide +kernel, rfl⟩
theorem d_X12_read_217 : kf_dq cX12_read 217 218 1 (.iconst 0) := ⟨by decide +kernel, rfl⟩
theorem d_X12_read_218 : kf_dq cX12_read 218 219 1 (.istore_n 1) := ⟨by decide +kernel, rfl⟩
theorem d_X12_read_219 : kf_dq cX12_read 219 220 1 (.iload_n 1) := ⟨by decide +kernel, rfl⟩
theorem d_X12_read_220 : kf_dq cX12_read 220 221 1 (.iconst 3) := ⟨by decide +kernel, rfl⟩
theorem d_X12_read_221 : kf_dj cX12_read 221 224 237 (.if_icmp .ge) := ⟨16, by decide +kernel, rfl, by decide⟩
theorem d_X12_read_224 : kf_dq cX12_read 224 225 1 (.aload_n 0) := ⟨by decide +kernel, rfl⟩
theorem d_X12_read_225 : kf_dq cX12_read 225 228 3 (.getfield 146) := ⟨by decide +kernel, rfl⟩
theorem d_X12_read_228 : kf_dq cX12_read 228 229 1 (.iload_n 1) := ⟨by decide +kernel, rfl⟩
theorem d_X12_read_229 : kf_dq cX12_read 229 230 1 (.iconst 0) := ⟨by decide +kernel, rfl⟩
theorem d_X12_read_230 : kf_dq cX12_read 230 231 1 (.bastore) := ⟨by decide +kernel, rfl⟩
theorem d_X12_read_231 : kf_dq cX12_read 231 234 3 (.iinc 1 1) := ⟨by decide +kernel, rfl⟩
theorem d_X12_read_234 : kf_dj cX12_read 234 237 219 .goto := ⟨(-15), by decide +kernel, rfl, by decide⟩
theorem d_X12_read_237 : kf_dq cX12_read 237 238 1 (.iconst 0) := ⟨by decide +kernel, rfl⟩
theorem d_X12_read_238 : kf_dq cX12_read 238 239 1 (.ireturn) := ⟨by decide +kernel, rfl⟩
def f_X12_read_219_s (rec219 : Nat → Int32 → kf_St → Option (Int32 × kf_St)) (v0 : Nat) (v1 : Int32) (σ : kf_St) : Option (Int32 × kf_St) :=
  if 3 ≤ v1 then
    some (0, σ)
  else
    if kf_ix v1 (kf_ln (kf_rf v0 64)) = true then
    kf_lt (kf_wi σ (kf_rf v0 64) (Int32.toNatClampNeg v1) (vp_nar .boolean 0)) fun σ_3 =>
    kf_lt (v1 + 1) fun v1_4 =>
    rec219 v0 v1_4 σ_3
    else none
def f_X12_read_219 : Nat → Nat → Int32 → kf_St → Option (Int32 × kf_St)
  | 0, _, _, _ => none
  | n + 1, v0, v1, σ => f_X12_read_219_s (f_X12_read_219 n) v0 v1 σ
set_option maxRecDepth 100000 in
set_option maxHeartbeats 4000000 in
theorem b_X12_read_219_s {X : kf_X} {G : kf_G} (rec219 : Nat → Int32 → kf_St → Option (Int32 × kf_St)) {q : (Int32 × kf_St)} (E : kf_ok X G cX12_read RX12 2 (some .int) (8)) (hty : kf_wt G) (hrec219 : ∀ (v0 : Nat) (v1 : Int32) (k_v0 : kf_kd G v0 = 13) (σ : kf_St), rec219 v0 v1 σ = some q → kf_WA X G 2 (kf_Q X G (some (.int q.1)) q.2) 219 [(0, .ref (kf_ad G v0)), (1, .int v1)] [] σ) (v0 : Nat) (v1 : Int32) (k_v0 : kf_kd G v0 = 13) (σ : kf_St) (h : f_X12_read_219_s rec219 v0 v1 σ = some q) : kf_WA X G 2 (kf_Q X G (some (.int q.1)) q.2) 219 [(0, .ref (kf_ad G v0)), (1, .int v1)] [] σ := by
  unfold f_X12_read_219_s at h
  refine wa_iload_n 1 rfl E d_X12_read_219 ?_
  refine wa_iconst 3 ic_3 E d_X12_read_220 ?_
  refine wa_icmp_ge E d_X12_read_221 (fun c_1 => ?_) (fun c_1 => ?_)
  · replace h := kf_ift c_1 h
    refine wa_iconst 0 ic_0 E d_X12_read_237 ?_
    cases h
    exact wa_iret E d_X12_read_238
  · replace h := kf_iff c_1 h
    refine wa_aload_n 0 rfl E d_X12_read_224 ?_
    refine wa_getR fl_X12_146 k_v0 rfl E d_X12_read_225 ?_
    refine wa_iload_n 1 rfl E d_X12_read_228 ?_
    refine wa_iconst 0 ic_0 E d_X12_read_229 ?_
    obtain ⟨g_2, h⟩ := kf_gd h
    obtain ⟨σ_3, eσ_3, h⟩ := kf_lte h
    refine wa_zast (kf_wtf hty 64 52 k_v0 (by decide) rfl) g_2 E d_X12_read_230 eσ_3 ?_
    obtain ⟨v1_4, ev1_4, h⟩ := kf_lte h
    refine wa_iinc (lv' := [(1, .int v1_4), (0, .ref (kf_ad G v0))]) v1_4 1 rfl (kf_inc ic_1 ev1_4) (by decide) rfl E d_X12_read_231 ?_
    refine wa_goto E d_X12_read_234 ?_
    refine wa_sub [1, 0] rfl ?_
    exact hrec219 v0 v1_4 k_v0 σ_3 h
theorem b_X12_read_219 {X : kf_X} {G : kf_G} {q : (Int32 × kf_St)} (E : kf_ok X G cX12_read RX12 2 (some .int) (8)) (hty : kf_wt G) : ∀ (N : Nat) (v0 : Nat) (v1 : Int32) (k_v0 : kf_kd G v0 = 13) (σ : kf_St) (_ : f_X12_read_219 N v0 v1 σ = some q), kf_WA X G 2 (kf_Q X G (some (.int q.1)) q.2) 219 [(0, .ref (kf_ad G v0)), (1, .int v1)] [] σ
  | 0, _, _, _, _, h => by cases h
  | N + 1, v0, v1, k_v0, σ, h => b_X12_read_219_s _ E hty (b_X12_read_219 E hty N) v0 v1 k_v0 σ h
def f_X12_read_164 (v0 : Nat) (s0 : Nat) (s1 : Int32) (σ : kf_St) : Option (Int32 × kf_St) :=
  kf_lt (kf_wi σ s0 17 s1) fun σ_1 =>
  if (σ_1.1 v0 13) ≤ 0 then
    if (σ_1.1 v0 15) ≤ 0 then
      kf_lt (kf_wi σ_1 v0 18 (σ_1.1 v0 19)) fun σ_4 =>
      (f_X12_begins v0 σ_4).bind fun q_5 =>
      (f_X12_keepsRow v0 q_5).bind fun q_6 =>
      kf_lt (kf_wi q_6 v0 56 0) fun σ_7 =>
      kf_lt (kf_wi σ_7 v0 60 0) fun σ_8 =>
      f_X12_read_219 kf_F v0 0 σ_8
    else
      some ((σ_1.1 v0 15), σ_1)
  else
    some ((σ_1.1 v0 13), σ_1)
set_option maxRecDepth 100000 in
set_option maxHeartbeats 4000000 in
theorem b_X12_read_164 {X : kf_X} {G : kf_G} {q : (Int32 × kf_St)} (E : kf_ok X G cX12_read RX12 2 (some .int) (8)) (hty : kf_wt G) (v0 : Nat) (s0 : Nat) (s1 : Int32) (k_v0 : kf_kd G v0 = 13) (k_s0 : kf_kd G s0 = 13) (σ : kf_St) (h : f_X12_read_164 v0 s0 s1 σ = some q) : kf_WA X G 2 (kf_Q X G (some (.int q.1)) q.2) 164 [(0, .ref (kf_ad G v0))] [.int s1, .ref (kf_ad G s0)] σ := by
  unfold f_X12_read_164 at h
  obtain ⟨σ_1, eσ_1, h⟩ := kf_lte h
  refine wa_putI fl_X12_37 fp_12_17 k_s0 rfl (by decide) rfl rfl E d_X12_read_164 eσ_1 ?_
  refine wa_aload_n 0 rfl E d_X12_read_167 ?_
  refine wa_getI fl_X12_203 k_v0 rfl E d_X12_read_168 ?_
  refine wa_if_le E d_X12_read_171 (fun c_2 => ?_) (fun c_2 => ?_)
  · replace h := kf_ift c_2 h
    refine wa_aload_n 0 rfl E d_X12_read_179 ?_
    refine wa_getI fl_X12_212 k_v0 rfl E d_X12_read_180 ?_
    refine wa_if_le E d_X12_read_183 (fun c_3 => ?_) (fun c_3 => ?_)
    · replace h := kf_ift c_3 h
      refine wa_aload_n 0 rfl E d_X12_read_191 ?_
      refine wa_aload_n 0 rfl E d_X12_read_192 ?_
      refine wa_getI fl_X12_236 k_v0 rfl E d_X12_read_193 ?_
      obtain ⟨σ_4, eσ_4, h⟩ := kf_lte h
      refine wa_putI fl_X12_233 fp_12_18 k_v0 rfl (by decide) rfl rfl E d_X12_read_196 eσ_4 ?_
      refine wa_aload_n 0 rfl E d_X12_read_199 ?_
      obtain ⟨q_5, hq_5, h⟩ := kf_bd h
      refine wa_callV (st2 := []) (c_X12_begins hty v0 k_v0 σ_4 hq_5) mv_X12_begins ml_X12_160 k_v0 rfl (Nat.le_of_ble_eq_true rfl) rfl (Nat.le_of_ble_eq_true rfl) E d_X12_read_200 rfl ?_
      refine wa_aload_n 0 rfl E d_X12_read_203 ?_
      obtain ⟨q_6, hq_6, h⟩ := kf_bd h
      refine wa_callV (st2 := []) (c_X12_keepsRow hty v0 k_v0 q_5 hq_6) mv_X12_keepsRow ml_X12_163 k_v0 rfl (Nat.le_of_ble_eq_true rfl) rfl (Nat.le_of_ble_eq_true rfl) E d_X12_read_204 rfl ?_
      refine wa_aload_n 0 rfl E d_X12_read_207 ?_
      refine wa_iconst 0 ic_0 E d_X12_read_208 ?_
      obtain ⟨σ_7, eσ_7, h⟩ := kf_lte h
      refine wa_putI fl_X12_251 fp_12_56 k_v0 rfl (by decide) rfl rfl E d_X12_read_209 eσ_7 ?_
      refine wa_aload_n 0 rfl E d_X12_read_212 ?_
      refine wa_iconst 0 ic_0 E d_X12_read_213 ?_
      obtain ⟨σ_8, eσ_8, h⟩ := kf_lte h
      refine wa_putI fl_X12_254 fp_12_60 k_v0 rfl (by decide) rfl rfl E d_X12_read_214 eσ_8 ?_
      refine wa_iconst 0 ic_0 E d_X12_read_217 ?_
      refine wa_istore_n (lv' := [(1, .int 0), (0, .ref (kf_ad G v0))]) rfl (by decide) rfl E d_X12_read_218 ?_
      refine wa_sub [1, 0] rfl ?_
      exact b_X12_read_219 E hty kf_F v0 0 k_v0 σ_8 h
    · replace h := kf_iff c_3 h
      refine wa_aload_n 0 rfl E d_X12_read_186 ?_
      refine wa_getI fl_X12_212 k_v0 rfl E d_X12_read_187 ?_
      cases h
      exact wa_iret E d_X12_read_190
  · replace h := kf_iff c_2 h
    refine wa_aload_n 0 rfl E d_X12_read_174 ?_
    refine wa_getI fl_X12_203 k_v0 rfl E d_X12_read_175 ?_
    cases h
    exact wa_iret E d_X12_read_178
def f_X12_read_134 (v0 : Nat) (σ : kf_St) : Option (Int32 × kf_St) :=
  if (σ.1 v0 13) ≤ 0 then
    if (σ.1 v0 15) ≤ 0 then
      f_X12_read_164 v0 v0 (-1) σ
    else
      f_X12_read_164 v0 v0 (σ.1 v0 16) σ
  else
    f_X12_read_164 v0 v0 (σ.1 v0 14) σ
set_option maxRecDepth 100000 in
set_option maxHeartbeats 4000000 in
theorem b_X12_read_134 {X : kf_X} {G : kf_G} {q : (Int32 × kf_St)} (E : kf_ok X G cX12_read RX12 2 (some .int) (8)) (hty : kf_wt G) (v0 : Nat) (k_v0 : kf_kd G v0 = 13) (σ : kf_St) (h : f_X12_read_134 v0 σ = some q) : kf_WA X G 2 (kf_Q X G (some (.int q.1)) q.2) 134 [(0, .ref (kf_ad G v0))] [] σ := by
  unfold f_X12_read_134 at h
  refine wa_aload_n 0 rfl E d_X12_read_134 ?_
  refine wa_aload_n 0 rfl E d_X12_read_135 ?_
  refine wa_getI fl_X12_203 k_v0 rfl E d_X12_read_136 ?_
  refine wa_if_le E d_X12_read_139 (fun c_1 => ?_) (fun c_1 => ?_)
  · replace h := kf_ift c_1 h
    refine wa_aload_n 0 rfl E d_X12_read_149 ?_
    refine wa_getI fl_X12_212 k_v0 rfl E d_X12_read_150 ?_
    refine wa_if_le E d_X12_read_153 (fun c_2 => ?_) (fun c_2 => ?_)
    · replace h := kf_ift c_2 h
      refine wa_iconst (-1) ic_m1 E d_X12_read_163 ?_
      exact b_X12_read_164 E hty v0 v0 (-1) k_v0 k_v0 σ h
    · replace h := kf_iff c_2 h
      refine wa_aload_n 0 rfl E d_X12_read_156 ?_
      refine wa_getI fl_X12_215 k_v0 rfl E d_X12_read_157 ?_
      refine wa_goto E d_X12_read_160 ?_
      exact b_X12_read_164 E hty v0 v0 (σ.1 v0 16) k_v0 k_v0 σ h
  · replace h := kf_iff c_1 h
    refine wa_aload_n 0 rfl E d_X12_read_142 ?_
    refine wa_getI fl_X12_209 k_v0 rfl E d_X12_read_143 ?_
    refine wa_goto E d_X12_read_146 ?_
    exact b_X12_read_164 E hty v0 v0 (σ.1 v0 14) k_v0 k_v0 σ h
def f_X12_read_112_s (rec112 : Nat → kf_St → Option (Int32 × kf_St)) (v0 : Nat) (σ : kf_St) : Option (Int32 × kf_St) :=
  if (σ.1 v0 13) = 0 then
    (f_X12_is v0 0 σ).bind fun q_2 =>
    if q_2.1 = 0 then
      (f_X12_tellOne v0 q_2.2).bind fun q_4 =>
      rec112 v0 q_4
    else
      f_X12_read_134 v0 q_2.2
  else
    f_X12_read_134 v0 σ
def f_X12_read_112 : Nat → Nat → kf_St → Option (Int32 × kf_St)
  | 0, _, _ => none
  | n + 1, v0, σ => f_X12_read_112_s (f_X12_read_112 n) v0 σ
set_option maxRecDepth 100000 in
set_option maxHeartbeats 4000000 in
theorem b_X12_read_112_s {X : kf_X} {G : kf_G} (rec112 : Nat → kf_St → Option (Int32 × kf_St)) {q : (Int32 × kf_St)} (E : kf_ok X G cX12_read RX12 2 (some .int) (8)) (hty : kf_wt G) (hrec112 : ∀ (v0 : Nat) (k_v0 : kf_kd G v0 = 13) (σ : kf_St), rec112 v0 σ = some q → kf_WA X G 2 (kf_Q X G (some (.int q.1)) q.2) 112 [(0, .ref (kf_ad G v0))] [] σ) (v0 : Nat) (k_v0 : kf_kd G v0 = 13) (σ : kf_St) (h : f_X12_read_112_s rec112 v0 σ = some q) : kf_WA X G 2 (kf_Q X G (some (.int q.1)) q.2) 112 [(0, .ref (kf_ad G v0))] [] σ := by
  unfold f_X12_read_112_s at h
  refine wa_aload_n 0 rfl E d_X12_read_112 ?_
  refine wa_getI fl_X12_203 k_v0 rfl E d_X12_read_113 ?_
  refine wa_if_ne E d_X12_read_116 (fun c_1 => ?_) (fun c_1 => ?_)
  · replace h := kf_iff c_1 h
    exact b_X12_read_134 E hty v0 k_v0 σ h
  · replace h := kf_ift c_1 h
    refine wa_aload_n 0 rfl E d_X12_read_119 ?_
    refine wa_iconst 0 ic_0 E d_X12_read_120 ?_
    obtain ⟨q_2, hq_2, h⟩ := kf_bd h
    refine wa_callV (st2 := [.int q_2.1]) (c_X12_is hty v0 0 k_v0 σ hq_2) mv_X12_is ml_X12_221 k_v0 rfl (Nat.le_of_ble_eq_true rfl) rfl (Nat.le_of_ble_eq_true rfl) E d_X12_read_121 rfl ?_
    refine wa_if_ne E d_X12_read_124 (fun c_3 => ?_) (fun c_3 => ?_)
    · replace h := kf_iff c_3 h
      exact b_X12_read_134 E hty v0 k_v0 q_2.2 h
    · replace h := kf_ift c_3 h
      refine wa_aload_n 0 rfl E d_X12_read_127 ?_
      obtain ⟨q_4, hq_4, h⟩ := kf_bd h
      refine wa_callV (st2 := []) (c_X12_tellOne hty v0 k_v0 q_2.2 hq_4) mv_X12_tellOne ml_X12_248 k_v0 rfl (Nat.le_of_ble_eq_true rfl) rfl (Nat.le_of_ble_eq_true rfl) E d_X12_read_128 rfl ?_
      refine wa_goto E d_X12_read_131 ?_
      exact hrec112 v0 k_v0 q_4 h
theorem b_X12_read_112 {X : kf_X} {G : kf_G} {q : (Int32 × kf_St)} (E : kf_ok X G cX12_read RX12 2 (some .int) (8)) (hty : kf_wt G) : ∀ (N : Nat) (v0 : Nat) (k_v0 : kf_kd G v0 = 13) (σ : kf_St) (_ : f_X12_read_112 N v0 σ = some q), kf_WA X G 2 (kf_Q X G (some (.int q.1)) q.2) 112 [(0, .ref (kf_ad G v0))] [] σ
  | 0, _, _, _, h => by cases h
  | N + 1, v0, k_v0, σ, h => b_X12_read_112_s _ E hty (b_X12_read_112 E hty N) v0 k_v0 σ h
def f_X12_read_10_s (rec10 : Nat → Int32 → kf_St → Option (Int32 × kf_St)) (v0 : Nat) (v1 : Int32) (σ : kf_St) : Option (Int32 × kf_St) :=
  if (σ.1 v0 4) ≤ v1 then
    kf_lt (kf_wi σ v0 2 0) fun σ_2 =>
    (f_X12_cut v0 σ_2).bind fun q_3 =>
    kf_lt (kf_wi q_3 v0 11 0) fun σ_4 =>
    kf_lt (kf_wi σ_4 v0 12 0) fun σ_5 =>
    kf_lt (kf_wi σ_5 v0 13 0) fun σ_6 =>
    kf_lt (kf_wi σ_6 v0 15 0) fun σ_7 =>
    kf_lt (kf_wi σ_7 v0 19 (1 - (σ_7.1 v0 18))) fun σ_8 =>
    kf_lt (kf_wi σ_8 v0 20 0) fun σ_9 =>
    (f_X12_plain v0 (σ_9.1 v0 19) σ_9).bind fun q_10 =>
    kf_lt (kf_wi q_10 v0 37 (130 * (q_10.1 v0 19))) fun σ_11 =>
    kf_lt (kf_wi σ_11 v0 43 (420 * (σ_11.1 v0 19))) fun σ_12 =>
    f_X12_read_112 kf_F v0 σ_12
  else
    if kf_ix v1 (kf_ln (kf_rf v0 1)) = true then
    if kf_ix v1 (kf_ln (kf_rf v0 3)) = true then
    kf_lt (kf_wi σ (kf_rf v0 3) (Int32.toNatClampNeg v1) (vp_nar .byte (σ.1 (kf_rf v0 1) (Int32.toNatClampNeg v1)))) fun σ_15 =>
    kf_lt (v1 + 1) fun v1_16 =>
    rec10 v0 v1_16 σ_15
    else none
    else none
def f_X12_read_10 : Nat → Nat → Int32 → kf_St → Option (Int32 × kf_St)
  | 0, _, _, _ => none
  | n + 1, v0, v1, σ => f_X12_read_10_s (f_X12_read_10 n) v0 v1 σ
set_option maxRecDepth 100000 in
set_option maxHeartbeats 4000000 in
theorem b_X12_read_10_s {X : kf_X} {G : kf_G} (rec10 : Nat → Int32 → kf_St → Option (Int32 × kf_St)) {q : (Int32 × kf_St)} (E : kf_ok X G cX12_read RX12 2 (some .int) (8)) (hty : kf_wt G) (hrec10 : ∀ (v0 : Nat) (v1 : Int32) (k_v0 : kf_kd G v0 = 13) (σ : kf_St), rec10 v0 v1 σ = some q → kf_WA X G 2 (kf_Q X G (some (.int q.1)) q.2) 10 [(0, .ref (kf_ad G v0)), (1, .int v1)] [] σ) (v0 : Nat) (v1 : Int32) (k_v0 : kf_kd G v0 = 13) (σ : kf_St) (h : f_X12_read_10_s rec10 v0 v1 σ = some q) : kf_WA X G 2 (kf_Q X G (some (.int q.1)) q.2) 10 [(0, .ref (kf_ad G v0)), (1, .int v1)] [] σ := by
  unfold f_X12_read_10_s at h
  refine wa_iload_n 1 rfl E d_X12_read_10 ?_
  refine wa_aload_n 0 rfl E d_X12_read_11 ?_
  refine wa_getI fl_X12_172 k_v0 rfl E d_X12_read_12 ?_
  refine wa_icmp_ge E d_X12_read_15 (fun c_1 => ?_) (fun c_1 => ?_)
  · replace h := kf_ift c_1 h
    refine wa_aload_n 0 rfl E d_X12_read_36 ?_
    refine wa_iconst 0 ic_0 E d_X12_read_37 ?_
    obtain ⟨σ_2, eσ_2, h⟩ := kf_lte h
    refine wa_putI fl_X12_166 fp_12_2 k_v0 rfl (by decide) rfl rfl E d_X12_read_38 eσ_2 ?_
    refine wa_aload_n 0 rfl E d_X12_read_41 ?_
    obtain ⟨q_3, hq_3, h⟩ := kf_bd h
    refine wa_callV (st2 := []) (c_X12_cut hty v0 k_v0 σ_2 hq_3) mv_X12_cut ml_X12_227 k_v0 rfl (Nat.le_of_ble_eq_true rfl) rfl (Nat.le_of_ble_eq_true rfl) E d_X12_read_42 rfl ?_
    refine wa_aload_n 0 rfl E d_X12_read_45 ?_
    refine wa_iconst 0 ic_0 E d_X12_read_46 ?_
    obtain ⟨σ_4, eσ_4, h⟩ := kf_lte h
    refine wa_putI fl_X12_206 fp_12_11 k_v0 rfl (by decide) rfl rfl E d_X12_read_47 eσ_4 ?_
    refine wa_aload_n 0 rfl E d_X12_read_50 ?_
    refine wa_iconst 0 ic_0 E d_X12_read_51 ?_
    obtain ⟨σ_5, eσ_5, h⟩ := kf_lte h
    refine wa_putI fl_X12_230 fp_12_12 k_v0 rfl (by decide) rfl rfl E d_X12_read_52 eσ_5 ?_
    refine wa_aload_n 0 rfl E d_X12_read_55 ?_
    refine wa_iconst 0 ic_0 E d_X12_read_56 ?_
    obtain ⟨σ_6, eσ_6, h⟩ := kf_lte h
    refine wa_putI fl_X12_203 fp_12_13 k_v0 rfl (by decide) rfl rfl E d_X12_read_57 eσ_6 ?_
    refine wa_aload_n 0 rfl E d_X12_read_60 ?_
    refine wa_iconst 0 ic_0 E d_X12_read_61 ?_
    obtain ⟨σ_7, eσ_7, h⟩ := kf_lte h
    refine wa_putI fl_X12_212 fp_12_15 k_v0 rfl (by decide) rfl rfl E d_X12_read_62 eσ_7 ?_
    refine wa_aload_n 0 rfl E d_X12_read_65 ?_
    refine wa_iconst 1 ic_1 E d_X12_read_66 ?_
    refine wa_aload_n 0 rfl E d_X12_read_67 ?_
    refine wa_getI fl_X12_233 k_v0 rfl E d_X12_read_68 ?_
    refine wa_isub E d_X12_read_71 ?_
    obtain ⟨σ_8, eσ_8, h⟩ := kf_lte h
    refine wa_putI fl_X12_236 fp_12_19 k_v0 rfl (by decide) rfl rfl E d_X12_read_72 eσ_8 ?_
    refine wa_aload_n 0 rfl E d_X12_read_75 ?_
    refine wa_iconst 0 ic_0 E d_X12_read_76 ?_
    obtain ⟨σ_9, eσ_9, h⟩ := kf_lte h
    refine wa_putI fl_X12_239 fp_12_20 k_v0 rfl (by decide) rfl rfl E d_X12_read_77 eσ_9 ?_
    refine wa_aload_n 0 rfl E d_X12_read_80 ?_
    refine wa_aload_n 0 rfl E d_X12_read_81 ?_
    refine wa_getI fl_X12_236 k_v0 rfl E d_X12_read_82 ?_
    obtain ⟨q_10, hq_10, h⟩ := kf_bd h
    refine wa_callV (st2 := []) (c_X12_plain hty v0 (σ_9.1 v0 19) k_v0 σ_9 hq_10) mv_X12_plain ml_X12_152 k_v0 rfl (Nat.le_of_ble_eq_true rfl) rfl (Nat.le_of_ble_eq_true rfl) E d_X12_read_85 rfl ?_
    refine wa_aload_n 0 rfl E d_X12_read_88 ?_
    refine wa_sipush 130 sp_130 E d_X12_read_89 ?_
    refine wa_aload_n 0 rfl E d_X12_read_92 ?_
    refine wa_getI fl_X12_236 k_v0 rfl E d_X12_read_93 ?_
    refine wa_imul E d_X12_read_96 ?_
    obtain ⟨σ_11, eσ_11, h⟩ := kf_lte h
    refine wa_putI fl_X12_242 fp_12_37 k_v0 rfl (by decide) rfl rfl E d_X12_read_97 eσ_11 ?_
    refine wa_aload_n 0 rfl E d_X12_read_100 ?_
    refine wa_sipush 420 sp_420 E d_X12_read_101 ?_
    refine wa_aload_n 0 rfl E d_X12_read_104 ?_
    refine wa_getI fl_X12_236 k_v0 rfl E d_X12_read_105 ?_
    refine wa_imul E d_X12_read_108 ?_
    obtain ⟨σ_12, eσ_12, h⟩ := kf_lte h
    refine wa_putI fl_X12_245 fp_12_43 k_v0 rfl (by decide) rfl rfl E d_X12_read_109 eσ_12 ?_
    refine wa_sub [0] rfl ?_
    exact b_X12_read_112 E hty kf_F v0 k_v0 σ_12 h
  · replace h := kf_iff c_1 h
    refine wa_aload_n 0 rfl E d_X12_read_18 ?_
    refine wa_getR fl_X12_17 k_v0 rfl E d_X12_read_19 ?_
    refine wa_iload_n 1 rfl E d_X12_read_22 ?_
    refine wa_aload_n 0 rfl E d_X12_read_23 ?_
    refine wa_getR fl_X12_13 k_v0 rfl E d_X12_read_24 ?_
    refine wa_iload_n 1 rfl E d_X12_read_27 ?_
    obtain ⟨g_13, h⟩ := kf_gd h
    refine wa_bald (kf_wtf hty 1 51 k_v0 (by decide) rfl) g_13 E d_X12_read_28 ?_
    obtain ⟨g_14, h⟩ := kf_gd h
    obtain ⟨σ_15, eσ_15, h⟩ := kf_lte h
    refine wa_bast (kf_wtf hty 3 51 k_v0 (by decide) rfl) g_14 E d_X12_read_29 eσ_15 ?_
    obtain ⟨v1_16, ev1_16, h⟩ := kf_lte h
    refine wa_iinc (lv' := [(1, .int v1_16), (0, .ref (kf_ad G v0))]) v1_16 1 rfl (kf_inc ic_1 ev1_16) (by decide) rfl E d_X12_read_30 ?_
    refine wa_goto E d_X12_read_33 ?_
    refine wa_sub [1, 0] rfl ?_
    exact hrec10 v0 v1_16 k_v0 σ_15 h
theorem b_X12_read_10 {X : kf_X} {G : kf_G} {q : (Int32 × kf_St)} (E : kf_ok X G cX12_read RX12 2 (some .int) (8)) (hty : kf_wt G) : ∀ (N : Nat) (v0 : Nat) (v1 : Int32) (k_v0 : kf_kd G v0 = 13) (σ : kf_St) (_ : f_X12_read_10 N v0 v1 σ = some q), kf_WA X G 2 (kf_Q X G (some (.int q.1)) q.2) 10 [(0, .ref (kf_ad G v0)), (1, .int v1)] [] σ
  | 0, _, _, _, _, h => by cases h
  | N + 1, v0, v1, k_v0, σ, h => b_X12_read_10_s _ E hty (b_X12_read_10 E hty N) v0 v1 k_v0 σ h
def f_X12_read (v0 : Nat) (σ : kf_St) : Option (Int32 × kf_St) :=
  kf_lt (kf_wi σ v0 4 (σ.1 v0 2)) fun σ_1 =>
  f_X12_read_10 kf_F v0 0 σ_1
set_option maxRecDepth 100000 in
set_option maxHeartbeats 4000000 in
theorem c_X12_read {G : kf_G} (hty : kf_wt G) (v0 : Nat) (k_v0 : kf_kd G v0 = 13) (σ : kf_St) {q : (Int32 × kf_St)} (h : f_X12_read v0 σ = some q) : kf_Ct (8) yX12_read cX12_read 2 (some .int) G [.ref (kf_ad G v0)] σ (some (.int q.1)) q.2 := by
  refine kf_Ct.of hty.1 (lv := [(0, .ref (kf_ad G v0))]) (by decide +kernel) rfl (Nat.le_of_ble_eq_true rfl) (fun X E => ?_)
  unfold f_X12_read at h
  refine wa_aload_n 0 rfl E d_X12_read_0 ?_
  refine wa_aload_n 0 rfl E d_X12_read_1 ?_
  refine wa_getI fl_X12_166 k_v0 rfl E d_X12_read_2 ?_
  obtain ⟨σ_1, eσ_1, h⟩ := kf_lte h
  refine wa_putI fl_X12_172 fp_12_4 k_v0 rfl (by decide) rfl rfl E d_X12_read_5 eσ_1 ?_
  refine wa_iconst 0 ic_0 E d_X12_read_8 ?_
  refine wa_istore_n (lv' := [(1, .int 0), (0, .ref (kf_ad G v0))]) rfl (by decide) rfl E d_X12_read_9 ?_
  refine wa_sub [1, 0] rfl ?_
  exact b_X12_read_10 E hty kf_F v0 0 k_v0 σ_1 h
/-! X12_place -/
theorem d_X12_place_0 : kf_dq cX12_place 0 1 1 (.aload_n 0) := ⟨by decide +kernel, rfl⟩
theorem d_X12_place_1 : kf_dq cX12_place 1 4 3 (.getfield 37) := ⟨by decide +kernel, rfl⟩
theorem d_X12_place_4 : kf_dq cX12_place 4 5 1 (.ireturn) := ⟨by decide +kernel, rfl⟩
def f_X12_place (v0 : Nat) (σ : kf_St) : Option (Int32 × kf_St) :=
  some ((σ.1 v0 17), σ)
set_option maxRecDepth 100000 in
set_option maxHeartbeats 4000000 in
theorem c_X12_place {G : kf_G} (hty : kf_wt G) (v0 : Nat) (k_v0 : kf_kd G v0 = 13) (σ : kf_St) {q : (Int32 × kf_St)} (h : f_X12_place v0 σ = some q) : kf_Ct (1) yX12_place cX12_place 1 (some .int) G [.ref (kf_ad G v0)] σ (some (.int q.1)) q.2 := by
  refine kf_Ct.of hty.1 (lv := [(0, .ref (kf_ad G v0))]) (by decide +kernel) rfl (Nat.le_of_ble_eq_true rfl) (fun X E => ?_)
  unfold f_X12_place at h
  refine wa_aload_n 0 rfl E d_X12_place_0 ?_
  refine wa_getI fl_X12_37 k_v0 rfl E d_X12_place_1 ?_
  cases h
  exact wa_iret E d_X12_place_4
/-! X12_termOf -/
theorem d_X12_termOf_0 : kf_dq cX12_termOf 0 1 1 (.iconst 0) := ⟨by decide +kernel, rfl⟩
theorem d_X12_termOf_1 : kf_dq cX12_termOf 1 2 1 (.istore_n 3) := ⟨by decide +kernel, rfl⟩
theorem d_X12_termOf_2 : kf_dq cX12_termOf 2 3 1 (.iload_n 1) := ⟨by decide +kernel, rfl⟩
theorem d_X12_termOf_3 : kf_dq cX12_termOf 3 5 2 (.istore 4) := ⟨by decide +kernel, rfl⟩
theorem d_X12_termOf_5 : kf_dq cX12_termOf 5 7 2 (.iload 4) := ⟨by decide +kernel, rfl⟩
theorem d_X12_termOf_7 : kf_dq cX12_termOf 7 8 1 (.iload_n 2) := ⟨by decide +kernel, rfl⟩
theorem d_X12_termOf_8 : kf_dj cX12_termOf 8 11 165 (.if_icmp .ge) := ⟨157, by decide +kernel, rfl, by decide⟩
theorem d_X12_termOf_11 : kf_dq cX12_termOf 11 12 1 (.aload_n 0) := ⟨by decide +kernel, rfl⟩
theorem d_X12_termOf_12 : kf_dq cX12_termOf 12 15 3 (.getfield 104) := ⟨by decide +kernel, rfl⟩
theorem d_X12_termOf_15 : kf_dq cX12_termOf 15 17 2 (.iload 4) := ⟨by decide +kernel, rfl⟩
theorem d_X12_termOf_17 : kf_dq cX12_termOf 17 18 1 (.iaload) := ⟨by decide +kernel, rfl⟩
theorem d_X12_termOf_18 : kf_dq cX12_termOf 18 20 2 (.istore 5) := ⟨by decide +kernel, rfl⟩
theorem d_X12_termOf_20 : kf_dq cX12_termOf 20 22 2 (.iload 5) := ⟨by decide +kernel, rfl⟩
theorem d_X12_termOf_22 : kf_dq cX12_termOf 22 23 1 (.iconst 2) := ⟨by decide +kernel, rfl⟩
theorem d_X12_termOf_23 : kf_dj cX12_termOf 23 26 65 (.if_icmp .ge) := ⟨42, by decide +kernel, rfl, by decide⟩
theorem d_X12_termOf_26 : kf_dq cX12_termOf 26 27 1 (.aload_n 0) := ⟨by decide +kernel, rfl⟩
theorem d_X12_termOf_27 : kf_dq cX12_termOf 27 30 3 (.getfield 116) := ⟨by decide +kernel, rfl⟩
theorem d_X12_termOf_30 : kf_dq cX12_termOf 30 31 1 (.iload_n 3) := ⟨by decide +kernel, rfl⟩
theorem d_X12_termOf_31 : kf_dq cX12_termOf 31 33 2 (.iload 5) := ⟨by decide +kernel, rfl⟩
theorem d_X12_termOf_33 : kf_dj cX12_termOf 33 36 46 (.ifCond .ne) := ⟨13, by decide +kernel, rfl, by decide⟩
theorem d_X12_termOf_36 : kf_dq cX12_termOf 36 37 1 (.aload_n 0) := ⟨by decide +kernel, rfl⟩
theorem d_X12_termOf_37 : kf_dq cX12_termOf 37 40 3 (.getfield 107) := ⟨by decide +kernel, rfl⟩
theorem d_X12_termOf_40 : kf_dq cX12_termOf 40 42 2 (.iload 4) := ⟨by decide +kernel, rfl⟩
theorem d_X12_termOf_42 : kf_dq cX12_termOf 42 43 1 (.iaload) := ⟨by decide +kernel, rfl⟩
theorem d_X12_termOf_43 : kf_dj cX12_termOf 43 46 58 .goto := ⟨15, by decide +kernel, rfl, by decide⟩
theorem d_X12_termOf_46 : kf_dq cX12_termOf 46 47 1 (.aload_n 0) := ⟨by decide +kernel, rfl⟩
theorem d_X12_termOf_47 : kf_dq cX12_termOf 47 50 3 (.getfield 113) := ⟨by decide +kernel, rfl⟩
theorem d_X12_termOf_50 : kf_dq cX12_termOf 50 51 1 (.aload_n 0) := ⟨by decide +kernel, rfl⟩
theorem d_X12_termOf_51 : kf_dq cX12_termOf 51 54 3 (.getfield 107) := ⟨by decide +kernel, rfl⟩
theorem d_X12_termOf_54 : kf_dq cX12_termOf 54 56 2 (.iload 4) := ⟨by decide +kernel, rfl⟩
theorem d_X12_termOf_56 : kf_dq cX12_termOf 56 57 1 (.iaload) := ⟨by decide +kernel, rfl⟩
theorem d_X12_termOf_57 : kf_dq cX12_termOf 57 58 1 (.iaload) := ⟨by decide +kernel, rfl⟩
theorem d_X12_termOf_58 : kf_dq cX12_termOf 58 59 1 (.iastore) := ⟨by decide +kernel, rfl⟩
theorem d_X12_termOf_59 : kf_dq cX12_termOf 59 62 3 (.iinc 3 1) := ⟨by decide +kernel, rfl⟩
theorem d_X12_termOf_62 : kf_dj cX12_termOf 62 65 159 .goto := ⟨97, by decide +kernel, rfl, by decide⟩
theorem d_X12_termOf_65 : kf_dq cX12_termOf 65 68 3 (.iinc 3 (-1)) := ⟨by decide +kernel, rfl⟩
theorem d_X12_termOf_68 : kf_dq cX12_termOf 68 69 1 (.aload_n 0) := ⟨by decide +kernel, rfl⟩
theorem d_X12_termOf_69 : kf_dq cX12_termOf 69 72 3 (.getfield 116) := ⟨by decide +kernel, rfl⟩
theorem d_X12_termOf_72 : kf_dq cX12_termOf 72 73 1 (.iload_n 3) := ⟨by decide +kernel, rfl⟩
theorem d_X12_termOf_73 : kf_dq cX12_termOf 73 74 1 (.iconst 1) := ⟨by decide +kernel, rfl⟩
theorem d_X12_termOf_74 : kf_dq cX12_termOf 74 75 1 (.isub) := ⟨by decide +kernel, rfl⟩
theorem d_X12_termOf_75 : kf_dq cX12_termOf 75 76 1 (.iaload) := ⟨by decide +kernel, rfl⟩
theorem d_X12_termOf_76 : kf_dq cX12_termOf 76 78 2 (.istore 6) := ⟨by decide +kernel, rfl⟩
theorem d_X12_termOf_78 : kf_dq cX12_termOf 78 79 1 (.aload_n 0) := ⟨by decide +kernel, rfl⟩
theorem d_X12_termOf_79 : kf_dq cX12_termOf 79 82 3 (.getfield 116) := ⟨by decide +kernel, rfl⟩
theorem d_X12_termOf_82 : kf_dq cX12_termOf 82 83 1 (.iload_n 3) := ⟨by decide +kernel, rfl⟩
theorem d_X12_termOf_83 : kf_dq cX12_termOf 83 84 1 (.iaload) := ⟨by decide +kernel, rfl⟩
theorem d_X12_termOf_84 : kf_dq cX12_termOf 84 86 2 (.istore 7) := ⟨by decide +kernel, rfl⟩
theorem d_X12_termOf_86 : kf_dq cX12_termOf 86 88 2 (.iload 5) := ⟨by decide +kernel, rfl⟩
theorem d_X12_termOf_88 : kf_dq cX12_termOf 88 89 1 (.iconst 5) := ⟨by decide +kernel, rfl⟩
theorem d_X12_termOf_89 : kf_dj cX12_termOf 89 92 104 (.if_icmp .ne) := ⟨15, by decide +kernel, rfl, by decide⟩
theorem d_X12_termOf_92 : kf_dq cX12_termOf 92 94 2 (.iload 7) := ⟨by decide +kernel, rfl⟩
theorem d_X12_termOf_94 : kf_dj cX12_termOf 94 97 104 (.ifCond .ne) := ⟨10, by decide +kernel, rfl, by decide⟩
theorem d_X12_termOf_97 : kf_dq cX12_termOf 97 98 1 (.aload_n 0) := ⟨by decide +kernel, rfl⟩
theorem d_X12_termOf_98 : kf_dq cX12_termOf 98 99 1 (.iconst 1) := ⟨by decide +kernel, rfl⟩
theorem d_X12_termOf_99 : kf_dq cX12_termOf 99 102 3 (.putfield 309) := ⟨by decide +kernel, rfl⟩
theorem d_X12_termOf_102 : kf_dq cX12_termOf 102 103 1 (.iconst 0) := ⟨by decide +kernel, rfl⟩
theorem d_X12_termOf_103 : kf_dq cX12_termOf 103 104 1 (.ireturn) := ⟨by decide +kernel, rfl⟩
theorem d_X12_termOf_104 : kf_dq cX12_termOf 104 105 1 (.aload_n 0) := ⟨by decide +kernel, rfl⟩
theorem d_X12_termOf_105 : kf_dq cX12_termOf 105 108 3 (.getfield 116) := ⟨by decide +kernel, rfl⟩
theorem d_X12_termOf_108 : kf_dq cX12_termOf 108 109 1 (.iload_n 3) := ⟨by decide +kernel, rfl⟩
theorem d_X12_termOf_109 : kf_dq cX12_termOf 109 110 1 (.iconst 1) := ⟨by decide +kernel, rfl⟩
theorem d_X12_termOf_110 : kf_dq cX12_termOf 110 111 1 (.isub) := ⟨by decide +kernel, rfl⟩
theorem d_X12_termOf_111 : kf_dq cX12_termOf 111 113 2 (.iload 5) := ⟨by decide +kernel, rfl⟩
theorem d_X12_termOf_113 : kf_dq cX12_termOf 113 114 1 (.iconst 2) := ⟨by decide +kernel, rfl⟩
theorem d_X12_termOf_114 : kf_dj cX12_termOf 114 117 125 (.if_icmp .ne) := ⟨11, by decide +kernel, rfl, by decide⟩
theorem d_X12_termOf_117 : kf_dq cX12_termOf 117 119 2 (.iload 6) := ⟨by decide +kernel, rfl⟩
theorem d_X12_termOf_119 : kf_dq cX12_termOf 119 121 2 (.iload 7) := ⟨by decide +kernel, rfl⟩
theorem d_X12_termOf_121 : kf_dq cX12_termOf 121 122 1 (.iadd) := ⟨by decide +kernel, rfl⟩
theorem d_X12_termOf_122 : kf_dj cX12_termOf 122 125 158 .goto := ⟨36, by decide +kernel, rfl, by decide⟩
theorem d_X12_termOf_125 : kf_dq cX12_termOf 125 127 2 (.iload 5) := ⟨by decide +kernel, rfl⟩
theorem d_X12_termOf_127 : kf_dq cX12_termOf 127 128 1 (.iconst 3) := ⟨by decide +kernel, rfl⟩
theorem d_X12_termOf_128 : kf_dj cX12_termOf 128 131 139 (.if_icmp .ne) := ⟨11, by decide +kernel, rfl, by decide⟩
theorem d_X12_termOf_131 : kf_dq cX12_termOf 131 133 2 (.iload 6) := ⟨by decide +kernel, rfl⟩
theorem d_X12_termOf_133 : kf_dq cX12_termOf 133 135 2 (.iload 7) := ⟨by decide +kernel, rfl⟩
theorem d_X12_termOf_135 : kf_dq cX12_termOf 135 136 1 (.isub) := ⟨by decide +kernel, rfl⟩
theorem d_X12_termOf_136 : kf_dj cX12_termOf 136 139 158 .goto := ⟨22, by decide +kernel, rfl, by decide⟩
theorem d_X12_termOf_139 : kf_dq cX12_termOf 139 141 2 (.iload 5) := ⟨by decide +kernel, rfl⟩
theorem d_X12_termOf_141 : kf_dq cX12_termOf 141 142 1 (.iconst 4) := ⟨by decide +kernel, rfl⟩
theorem d_X12_termOf_142 : kf_dj cX12_termOf 142 145 153 (.if_icmp .ne) := ⟨11, by decide +kernel, rfl, by decide⟩
theorem d_X12_termOf_145 : kf_dq cX12_termOf 145 147 2 (.iload 6) := ⟨by decide +kernel, rfl⟩
theorem d_X12_termOf_147 : kf_dq cX12_termOf 147 149 2 (.iload 7) := ⟨by decide +kernel, rfl⟩
theorem d_X12_termOf_149 : kf_dq cX12_termOf 149 150 1 (.imul) := ⟨by decide +kernel, rfl⟩
theorem d_X12_termOf_150 : kf_dj cX12_termOf 150 153 158 .goto := ⟨8, by decide +kernel, rfl, by decide⟩
theorem d_X12_termOf_153 : kf_dq cX12_termOf 153 155 2 (.iload 6) := ⟨by decide +kernel, rfl⟩
theorem d_X12_termOf_155 : kf_dq cX12_termOf 155 157 2 (.iload 7) := ⟨by decide +kernel, rfl⟩
theorem d_X12_termOf_157 : kf_dq cX12_termOf 157 158 1 (.idiv) := ⟨by decide +kernel, rfl⟩
theorem d_X12_termOf_158 : kf_dq cX12_termOf 158 159 1 (.iastore) := ⟨by decide +kernel, rfl⟩
theorem d_X12_termOf_159 : kf_dq cX12_termOf 159 162 3 (.iinc 4 1) := ⟨by decide +kernel, rfl⟩
theorem d_X12_termOf_162 : kf_dj cX12_termOf 162 165 5 .goto := ⟨(-157), by decide +kernel, rfl, by decide⟩
theorem d_X12_termOf_165 : kf_dq cX12_termOf 165 166 1 (.aload_n 0) := ⟨by decide +kernel, rfl⟩
theorem d_X12_termOf_166 : kf_dq cX12_termOf 166 169 3 (.getfield 116) := ⟨by decide +kernel, rfl⟩
theorem d_X12_termOf_169 : kf_dq cX12_termOf 169 170 1 (.iconst 0) := ⟨by decide +kernel, rfl⟩
theorem d_X12_termOf_170 : kf_dq cX12_termOf 170 171 1 (.iaload) := ⟨by decide +kernel, rfl⟩
theorem d_X12_termOf_171 : kf_dq cX12_termOf 171 172 1 (.ireturn) := ⟨by decide +kernel, rfl⟩
def f_X12_termOf_159 (rec5 : Nat → Int32 → Int32 → Int32 → kf_St → Option (Int32 × kf_St)) (v0 : Nat) (v2 : Int32) (v3 : Int32) (v4 : Int32) (σ : kf_St) : Option (Int32 × kf_St) :=
  kf_lt (v4 + 1) fun v4_1 =>
  rec5 v0 v2 v3 v4_1 σ
set_option maxRecDepth 100000 in
set_option maxHeartbeats 4000000 in
theorem b_X12_termOf_159 {X : kf_X} {G : kf_G} {rec5 : Nat → Int32 → Int32 → Int32 → kf_St → Option (Int32 × kf_St)} {q : (Int32 × kf_St)} (E : kf_ok X G cX12_termOf RX12 8 (some .int) (1)) (hty : kf_wt G) (hrec5 : ∀ (v0 : Nat) (v2 : Int32) (v3 : Int32) (v4 : Int32) (k_v0 : kf_kd G v0 = 13) (σ : kf_St), rec5 v0 v2 v3 v4 σ = some q → kf_WA X G 8 (kf_Q X G (some (.int q.1)) q.2) 5 [(0, .ref (kf_ad G v0)), (2, .int v2), (3, .int v3), (4, .int v4)] [] σ) (v0 : Nat) (v2 : Int32) (v3 : Int32) (v4 : Int32) (k_v0 : kf_kd G v0 = 13) (σ : kf_St) (h : f_X12_termOf_159 rec5 v0 v2 v3 v4 σ = some q) : kf_WA X G 8 (kf_Q X G (some (.int q.1)) q.2) 159 [(0, .ref (kf_ad G v0)), (2, .int v2), (3, .int v3), (4, .int v4)] [] σ := by
  unfold f_X12_termOf_159 at h
  obtain ⟨v4_1, ev4_1, h⟩ := kf_lte h
  refine wa_iinc (lv' := [(4, .int v4_1), (0, .ref (kf_ad G v0)), (2, .int v2), (3, .int v3)]) v4_1 3 rfl (kf_inc ic_1 ev4_1) (by decide) rfl E d_X12_termOf_159 ?_
  refine wa_goto E d_X12_termOf_162 ?_
  refine wa_sub [1, 2, 3, 0] rfl ?_
  exact hrec5 v0 v2 v3 v4_1 k_v0 σ h
def f_X12_termOf_158 (rec5 : Nat → Int32 → Int32 → Int32 → kf_St → Option (Int32 × kf_St)) (v0 : Nat) (v2 : Int32) (v3 : Int32) (v4 : Int32) (s0 : Nat) (s1 : Int32) (s2 : Int32) (σ : kf_St) : Option (Int32 × kf_St) :=
  if kf_ix s1 (kf_ln s0) = true then
  kf_lt (kf_wi σ s0 (Int32.toNatClampNeg s1) s2) fun σ_2 =>
  f_X12_termOf_159 rec5 v0 v2 v3 v4 σ_2
  else none
set_option maxRecDepth 100000 in
set_option maxHeartbeats 4000000 in
theorem b_X12_termOf_158 {X : kf_X} {G : kf_G} {rec5 : Nat → Int32 → Int32 → Int32 → kf_St → Option (Int32 × kf_St)} {q : (Int32 × kf_St)} (E : kf_ok X G cX12_termOf RX12 8 (some .int) (1)) (hty : kf_wt G) (hrec5 : ∀ (v0 : Nat) (v2 : Int32) (v3 : Int32) (v4 : Int32) (k_v0 : kf_kd G v0 = 13) (σ : kf_St), rec5 v0 v2 v3 v4 σ = some q → kf_WA X G 8 (kf_Q X G (some (.int q.1)) q.2) 5 [(0, .ref (kf_ad G v0)), (2, .int v2), (3, .int v3), (4, .int v4)] [] σ) (v0 : Nat) (v2 : Int32) (v3 : Int32) (v4 : Int32) (s0 : Nat) (s1 : Int32) (s2 : Int32) (k_v0 : kf_kd G v0 = 13) (k_s0 : kf_kd G s0 = 50) (σ : kf_St) (h : f_X12_termOf_158 rec5 v0 v2 v3 v4 s0 s1 s2 σ = some q) : kf_WA X G 8 (kf_Q X G (some (.int q.1)) q.2) 158 [(0, .ref (kf_ad G v0)), (2, .int v2), (3, .int v3), (4, .int v4)] [.int s2, .int s1, .ref (kf_ad G s0)] σ := by
  unfold f_X12_termOf_158 at h
  obtain ⟨g_1, h⟩ := kf_gd h
  obtain ⟨σ_2, eσ_2, h⟩ := kf_lte h
  refine wa_iast k_s0 g_1 E d_X12_termOf_158 eσ_2 ?_
  exact b_X12_termOf_159 E hty hrec5 v0 v2 v3 v4 k_v0 σ_2 h
def f_X12_termOf_104 (rec5 : Nat → Int32 → Int32 → Int32 → kf_St → Option (Int32 × kf_St)) (v0 : Nat) (v2 : Int32) (v3 : Int32) (v4 : Int32) (v5 : Int32) (v6 : Int32) (v7 : Int32) (σ : kf_St) : Option (Int32 × kf_St) :=
  if v5 = 2 then
    f_X12_termOf_158 rec5 v0 v2 v3 v4 (kf_rf v0 49) (v3 - 1) (v6 + v7) σ
  else
    if v5 = 3 then
      f_X12_termOf_158 rec5 v0 v2 v3 v4 (kf_rf v0 49) (v3 - 1) (v6 - v7) σ
    else
      if v5 = 4 then
        f_X12_termOf_158 rec5 v0 v2 v3 v4 (kf_rf v0 49) (v3 - 1) (v6 * v7) σ
      else
        if v7 = 0 then none else
        f_X12_termOf_158 rec5 v0 v2 v3 v4 (kf_rf v0 49) (v3 - 1) (v6 / v7) σ
set_option maxRecDepth 100000 in
set_option maxHeartbeats 4000000 in
theorem b_X12_termOf_104 {X : kf_X} {G : kf_G} {rec5 : Nat → Int32 → Int32 → Int32 → kf_St → Option (Int32 × kf_St)} {q : (Int32 × kf_St)} (E : kf_ok X G cX12_termOf RX12 8 (some .int) (1)) (hty : kf_wt G) (hrec5 : ∀ (v0 : Nat) (v2 : Int32) (v3 : Int32) (v4 : Int32) (k_v0 : kf_kd G v0 = 13) (σ : kf_St), rec5 v0 v2 v3 v4 σ = some q → kf_WA X G 8 (kf_Q X G (some (.int q.1)) q.2) 5 [(0, .ref (kf_ad G v0)), (2, .int v2), (3, .int v3), (4, .int v4)] [] σ) (v0 : Nat) (v2 : Int32) (v3 : Int32) (v4 : Int32) (v5 : Int32) (v6 : Int32) (v7 : Int32) (k_v0 : kf_kd G v0 = 13) (σ : kf_St) (h : f_X12_termOf_104 rec5 v0 v2 v3 v4 v5 v6 v7 σ = some q) : kf_WA X G 8 (kf_Q X G (some (.int q.1)) q.2) 104 [(0, .ref (kf_ad G v0)), (2, .int v2), (3, .int v3), (4, .int v4), (5, .int v5), (6, .int v6), (7, .int v7)] [] σ := by
  unfold f_X12_termOf_104 at h
  refine wa_aload_n 0 rfl E d_X12_termOf_104 ?_
  refine wa_getR fl_X12_116 k_v0 rfl E d_X12_termOf_105 ?_
  refine wa_iload_n 2 rfl E d_X12_termOf_108 ?_
  refine wa_iconst 1 ic_1 E d_X12_termOf_109 ?_
  refine wa_isub E d_X12_termOf_110 ?_
  refine wa_iload 4 rfl E d_X12_termOf_111 ?_
  refine wa_iconst 2 ic_2 E d_X12_termOf_113 ?_
  refine wa_icmp_ne E d_X12_termOf_114 (fun c_1 => ?_) (fun c_1 => ?_)
  · replace h := kf_iff c_1 h
    refine wa_iload 4 rfl E d_X12_termOf_125 ?_
    refine wa_iconst 3 ic_3 E d_X12_termOf_127 ?_
    refine wa_icmp_ne E d_X12_termOf_128 (fun c_2 => ?_) (fun c_2 => ?_)
    · replace h := kf_iff c_2 h
      refine wa_iload 4 rfl E d_X12_termOf_139 ?_
      refine wa_iconst 4 ic_4 E d_X12_termOf_141 ?_
      refine wa_icmp_ne E d_X12_termOf_142 (fun c_3 => ?_) (fun c_3 => ?_)
      · replace h := kf_iff c_3 h
        refine wa_iload 5 rfl E d_X12_termOf_153 ?_
        refine wa_iload 6 rfl E d_X12_termOf_155 ?_
        obtain ⟨g_4, h⟩ := kf_gn h
        refine wa_idiv g_4 E d_X12_termOf_157 ?_
        refine wa_sub [0, 1, 2, 3] rfl ?_
        exact b_X12_termOf_158 E hty hrec5 v0 v2 v3 v4 (kf_rf v0 49) (v3 - 1) (v6 / v7) k_v0 (kf_wtf hty 49 49 k_v0 (by decide) rfl) σ h
      · replace h := kf_ift c_3 h
        refine wa_iload 5 rfl E d_X12_termOf_145 ?_
        refine wa_iload 6 rfl E d_X12_termOf_147 ?_
        refine wa_imul E d_X12_termOf_149 ?_
        refine wa_goto E d_X12_termOf_150 ?_
        refine wa_sub [0, 1, 2, 3] rfl ?_
        exact b_X12_termOf_158 E hty hrec5 v0 v2 v3 v4 (kf_rf v0 49) (v3 - 1) (v6 * v7) k_v0 (kf_wtf hty 49 49 k_v0 (by decide) rfl) σ h
    · replace h := kf_ift c_2 h
      refine wa_iload 5 rfl E d_X12_termOf_131 ?_
      refine wa_iload 6 rfl E d_X12_termOf_133 ?_
      refine wa_isub E d_X12_termOf_135 ?_
      refine wa_goto E d_X12_termOf_136 ?_
      refine wa_sub [0, 1, 2, 3] rfl ?_
      exact b_X12_termOf_158 E hty hrec5 v0 v2 v3 v4 (kf_rf v0 49) (v3 - 1) (v6 - v7) k_v0 (kf_wtf hty 49 49 k_v0 (by decide) rfl) σ h
  · replace h := kf_ift c_1 h
    refine wa_iload 5 rfl E d_X12_termOf_117 ?_
    refine wa_iload 6 rfl E d_X12_termOf_119 ?_
    refine wa_iadd E d_X12_termOf_121 ?_
    refine wa_goto E d_X12_termOf_122 ?_
    refine wa_sub [0, 1, 2, 3] rfl ?_
    exact b_X12_termOf_158 E hty hrec5 v0 v2 v3 v4 (kf_rf v0 49) (v3 - 1) (v6 + v7) k_v0 (kf_wtf hty 49 49 k_v0 (by decide) rfl) σ h
def f_X12_termOf_58 (rec5 : Nat → Int32 → Int32 → Int32 → kf_St → Option (Int32 × kf_St)) (v0 : Nat) (v2 : Int32) (v3 : Int32) (v4 : Int32) (s0 : Nat) (s1 : Int32) (s2 : Int32) (σ : kf_St) : Option (Int32 × kf_St) :=
  if kf_ix s1 (kf_ln s0) = true then
  kf_lt (kf_wi σ s0 (Int32.toNatClampNeg s1) s2) fun σ_2 =>
  kf_lt (v3 + 1) fun v3_3 =>
  f_X12_termOf_159 rec5 v0 v2 v3_3 v4 σ_2
  else none
set_option maxRecDepth 100000 in
set_option maxHeartbeats 4000000 in
theorem b_X12_termOf_58 {X : kf_X} {G : kf_G} {rec5 : Nat → Int32 → Int32 → Int32 → kf_St → Option (Int32 × kf_St)} {q : (Int32 × kf_St)} (E : kf_ok X G cX12_termOf RX12 8 (some .int) (1)) (hty : kf_wt G) (hrec5 : ∀ (v0 : Nat) (v2 : Int32) (v3 : Int32) (v4 : Int32) (k_v0 : kf_kd G v0 = 13) (σ : kf_St), rec5 v0 v2 v3 v4 σ = some q → kf_WA X G 8 (kf_Q X G (some (.int q.1)) q.2) 5 [(0, .ref (kf_ad G v0)), (2, .int v2), (3, .int v3), (4, .int v4)] [] σ) (v0 : Nat) (v2 : Int32) (v3 : Int32) (v4 : Int32) (s0 : Nat) (s1 : Int32) (s2 : Int32) (k_v0 : kf_kd G v0 = 13) (k_s0 : kf_kd G s0 = 50) (σ : kf_St) (h : f_X12_termOf_58 rec5 v0 v2 v3 v4 s0 s1 s2 σ = some q) : kf_WA X G 8 (kf_Q X G (some (.int q.1)) q.2) 58 [(0, .ref (kf_ad G v0)), (2, .int v2), (3, .int v3), (4, .int v4)] [.int s2, .int s1, .ref (kf_ad G s0)] σ := by
  unfold f_X12_termOf_58 at h
  obtain ⟨g_1, h⟩ := kf_gd h
  obtain ⟨σ_2, eσ_2, h⟩ := kf_lte h
  refine wa_iast k_s0 g_1 E d_X12_termOf_58 eσ_2 ?_
  obtain ⟨v3_3, ev3_3, h⟩ := kf_lte h
  refine wa_iinc (lv' := [(3, .int v3_3), (0, .ref (kf_ad G v0)), (2, .int v2), (4, .int v4)]) v3_3 2 rfl (kf_inc ic_1 ev3_3) (by decide) rfl E d_X12_termOf_59 ?_
  refine wa_goto E d_X12_termOf_62 ?_
  refine wa_sub [1, 2, 0, 3] rfl ?_
  exact b_X12_termOf_159 E hty hrec5 v0 v2 v3_3 v4 k_v0 σ_2 h
def f_X12_termOf_5_s (rec5 : Nat → Int32 → Int32 → Int32 → kf_St → Option (Int32 × kf_St)) (v0 : Nat) (v2 : Int32) (v3 : Int32) (v4 : Int32) (σ : kf_St) : Option (Int32 × kf_St) :=
  if v2 ≤ v4 then
    if kf_ix 0 (kf_ln (kf_rf v0 49)) = true then
    some ((σ.1 (kf_rf v0 49) (Int32.toNatClampNeg 0)), σ)
    else none
  else
    if kf_ix v4 (kf_ln (kf_rf v0 44)) = true then
    kf_lt ((σ.1 (kf_rf v0 44) (Int32.toNatClampNeg v4))) fun v5_4 =>
    if 2 ≤ v5_4 then
      kf_lt (v3 + (-1)) fun v3_6 =>
      if kf_ix (v3_6 - 1) (kf_ln (kf_rf v0 49)) = true then
      kf_lt ((σ.1 (kf_rf v0 49) (Int32.toNatClampNeg (v3_6 - 1)))) fun v6_8 =>
      if kf_ix v3_6 (kf_ln (kf_rf v0 49)) = true then
      kf_lt ((σ.1 (kf_rf v0 49) (Int32.toNatClampNeg v3_6))) fun v7_10 =>
      if v5_4 = 5 then
        if v7_10 = 0 then
          kf_lt (kf_wi σ v0 50 1) fun σ_13 =>
          some (0, σ_13)
        else
          f_X12_termOf_104 rec5 v0 v2 v3_6 v4 v5_4 v6_8 v7_10 σ
      else
        f_X12_termOf_104 rec5 v0 v2 v3_6 v4 v5_4 v6_8 v7_10 σ
      else none
      else none
    else
      if v5_4 = 0 then
        if kf_ix v4 (kf_ln (kf_rf v0 45)) = true then
        f_X12_termOf_58 rec5 v0 v2 v3 v4 (kf_rf v0 49) v3 (σ.1 (kf_rf v0 45) (Int32.toNatClampNeg v4)) σ
        else none
      else
        if kf_ix v4 (kf_ln (kf_rf v0 45)) = true then
        if kf_ix (σ.1 (kf_rf v0 45) (Int32.toNatClampNeg v4)) (kf_ln (kf_rf v0 48)) = true then
        f_X12_termOf_58 rec5 v0 v2 v3 v4 (kf_rf v0 49) v3 (σ.1 (kf_rf v0 48) (Int32.toNatClampNeg (σ.1 (kf_rf v0 45) (Int32.toNatClampNeg v4)))) σ
        else none
        else none
    else none
def f_X12_termOf_5 : Nat → Nat → Int32 → Int32 → Int32 → kf_St → Option (Int32 × kf_St)
  | 0, _, _, _, _, _ => none
  | n + 1, v0, v2, v3, v4, σ => f_X12_termOf_5_s (f_X12_termOf_5 n) v0 v2 v3 v4 σ
set_option maxRecDepth 100000 in
set_option maxHeartbeats 4000000 in
theorem b_X12_termOf_5_s {X : kf_X} {G : kf_G} (rec5 : Nat → Int32 → Int32 → Int32 → kf_St → Option (Int32 × kf_St)) {q : (Int32 × kf_St)} (E : kf_ok X G cX12_termOf RX12 8 (some .int) (1)) (hty : kf_wt G) (hrec5 : ∀ (v0 : Nat) (v2 : Int32) (v3 : Int32) (v4 : Int32) (k_v0 : kf_kd G v0 = 13) (σ : kf_St), rec5 v0 v2 v3 v4 σ = some q → kf_WA X G 8 (kf_Q X G (some (.int q.1)) q.2) 5 [(0, .ref (kf_ad G v0)), (2, .int v2), (3, .int v3), (4, .int v4)] [] σ) (v0 : Nat) (v2 : Int32) (v3 : Int32) (v4 : Int32) (k_v0 : kf_kd G v0 = 13) (σ : kf_St) (h : f_X12_termOf_5_s rec5 v0 v2 v3 v4 σ = some q) : kf_WA X G 8 (kf_Q X G (some (.int q.1)) q.2) 5 [(0, .ref (kf_ad G v0)), (2, .int v2), (3, .int v3), (4, .int v4)] [] σ := by
  unfold f_X12_termOf_5_s at h
  refine wa_iload 3 rfl E d_X12_termOf_5 ?_
  refine wa_iload_n 1 rfl E d_X12_termOf_7 ?_
  refine wa_icmp_ge E d_X12_termOf_8 (fun c_1 => ?_) (fun c_1 => ?_)
  · replace h := kf_ift c_1 h
    refine wa_aload_n 0 rfl E d_X12_termOf_165 ?_
    refine wa_getR fl_X12_116 k_v0 rfl E d_X12_termOf_166 ?_
    refine wa_iconst 0 ic_0 E d_X12_termOf_169 ?_
    obtain ⟨g_2, h⟩ := kf_gd h
    refine wa_iald (kf_wtf hty 49 49 k_v0 (by decide) rfl) g_2 E d_X12_termOf_170 ?_
    cases h
    exact wa_iret E d_X12_termOf_171
  · replace h := kf_iff c_1 h
    refine wa_aload_n 0 rfl E d_X12_termOf_11 ?_
    refine wa_getR fl_X12_104 k_v0 rfl E d_X12_termOf_12 ?_
    refine wa_iload 3 rfl E d_X12_termOf_15 ?_
    obtain ⟨g_3, h⟩ := kf_gd h
    refine wa_iald (kf_wtf hty 44 49 k_v0 (by decide) rfl) g_3 E d_X12_termOf_17 ?_
    obtain ⟨v5_4, ev5_4, h⟩ := kf_lte h
    refine wa_topi ev5_4 ?_
    refine wa_istore (lv' := [(5, .int v5_4), (0, .ref (kf_ad G v0)), (2, .int v2), (3, .int v3), (4, .int v4)]) (by decide) rfl E d_X12_termOf_18 ?_
    refine wa_iload 0 rfl E d_X12_termOf_20 ?_
    refine wa_iconst 2 ic_2 E d_X12_termOf_22 ?_
    refine wa_icmp_ge E d_X12_termOf_23 (fun c_5 => ?_) (fun c_5 => ?_)
    · replace h := kf_ift c_5 h
      obtain ⟨v3_6, ev3_6, h⟩ := kf_lte h
      refine wa_iinc (lv' := [(3, .int v3_6), (5, .int v5_4), (0, .ref (kf_ad G v0)), (2, .int v2), (4, .int v4)]) v3_6 3 rfl (kf_inc ic_m1 ev3_6) (by decide) rfl E d_X12_termOf_65 ?_
      refine wa_aload_n 2 rfl E d_X12_termOf_68 ?_
      refine wa_getR fl_X12_116 k_v0 rfl E d_X12_termOf_69 ?_
      refine wa_iload_n 0 rfl E d_X12_termOf_72 ?_
      refine wa_iconst 1 ic_1 E d_X12_termOf_73 ?_
      refine wa_isub E d_X12_termOf_74 ?_
      obtain ⟨g_7, h⟩ := kf_gd h
      refine wa_iald (kf_wtf hty 49 49 k_v0 (by decide) rfl) g_7 E d_X12_termOf_75 ?_
      obtain ⟨v6_8, ev6_8, h⟩ := kf_lte h
      refine wa_topi ev6_8 ?_
      refine wa_istore (lv' := [(6, .int v6_8), (3, .int v3_6), (5, .int v5_4), (0, .ref (kf_ad G v0)), (2, .int v2), (4, .int v4)]) (by decide) rfl E d_X12_termOf_76 ?_
      refine wa_aload_n 3 rfl E d_X12_termOf_78 ?_
      refine wa_getR fl_X12_116 k_v0 rfl E d_X12_termOf_79 ?_
      refine wa_iload_n 1 rfl E d_X12_termOf_82 ?_
      obtain ⟨g_9, h⟩ := kf_gd h
      refine wa_iald (kf_wtf hty 49 49 k_v0 (by decide) rfl) g_9 E d_X12_termOf_83 ?_
      obtain ⟨v7_10, ev7_10, h⟩ := kf_lte h
      refine wa_topi ev7_10 ?_
      refine wa_istore (lv' := [(7, .int v7_10), (6, .int v6_8), (3, .int v3_6), (5, .int v5_4), (0, .ref (kf_ad G v0)), (2, .int v2), (4, .int v4)]) (by decide) rfl E d_X12_termOf_84 ?_
      refine wa_iload 3 rfl E d_X12_termOf_86 ?_
      refine wa_iconst 5 ic_5 E d_X12_termOf_88 ?_
      refine wa_icmp_ne E d_X12_termOf_89 (fun c_11 => ?_) (fun c_11 => ?_)
      · replace h := kf_iff c_11 h
        refine wa_sub [4, 5, 2, 6, 3, 1, 0] rfl ?_
        exact b_X12_termOf_104 E hty hrec5 v0 v2 v3_6 v4 v5_4 v6_8 v7_10 k_v0 σ h
      · replace h := kf_ift c_11 h
        refine wa_iload 0 rfl E d_X12_termOf_92 ?_
        refine wa_if_ne E d_X12_termOf_94 (fun c_12 => ?_) (fun c_12 => ?_)
        · replace h := kf_iff c_12 h
          refine wa_sub [4, 5, 2, 6, 3, 1, 0] rfl ?_
          exact b_X12_termOf_104 E hty hrec5 v0 v2 v3_6 v4 v5_4 v6_8 v7_10 k_v0 σ h
        · replace h := kf_ift c_12 h
          refine wa_aload_n 4 rfl E d_X12_termOf_97 ?_
          refine wa_iconst 1 ic_1 E d_X12_termOf_98 ?_
          obtain ⟨σ_13, eσ_13, h⟩ := kf_lte h
          refine wa_putI fl_X12_309 fp_12_50 k_v0 rfl (by decide) kf_z1 kf_f1 E d_X12_termOf_99 eσ_13 ?_
          refine wa_iconst 0 ic_0 E d_X12_termOf_102 ?_
          cases h
          exact wa_iret E d_X12_termOf_103
    · replace h := kf_iff c_5 h
      refine wa_aload_n 1 rfl E d_X12_termOf_26 ?_
      refine wa_getR fl_X12_116 k_v0 rfl E d_X12_termOf_27 ?_
      refine wa_iload_n 3 rfl E d_X12_termOf_30 ?_
      refine wa_iload 0 rfl E d_X12_termOf_31 ?_
      refine wa_if_ne E d_X12_termOf_33 (fun c_14 => ?_) (fun c_14 => ?_)
      · replace h := kf_iff c_14 h
        refine wa_aload_n 1 rfl E d_X12_termOf_46 ?_
        refine wa_getR fl_X12_113 k_v0 rfl E d_X12_termOf_47 ?_
        refine wa_aload_n 1 rfl E d_X12_termOf_50 ?_
        refine wa_getR fl_X12_107 k_v0 rfl E d_X12_termOf_51 ?_
        refine wa_iload 4 rfl E d_X12_termOf_54 ?_
        obtain ⟨g_15, h⟩ := kf_gd h
        refine wa_iald (kf_wtf hty 45 49 k_v0 (by decide) rfl) g_15 E d_X12_termOf_56 ?_
        obtain ⟨g_16, h⟩ := kf_gd h
        refine wa_iald (kf_wtf hty 48 49 k_v0 (by decide) rfl) g_16 E d_X12_termOf_57 ?_
        refine wa_sub [1, 2, 3, 4] rfl ?_
        exact b_X12_termOf_58 E hty hrec5 v0 v2 v3 v4 (kf_rf v0 49) v3 (σ.1 (kf_rf v0 48) (Int32.toNatClampNeg (σ.1 (kf_rf v0 45) (Int32.toNatClampNeg v4)))) k_v0 (kf_wtf hty 49 49 k_v0 (by decide) rfl) σ h
      · replace h := kf_ift c_14 h
        refine wa_aload_n 1 rfl E d_X12_termOf_36 ?_
        refine wa_getR fl_X12_107 k_v0 rfl E d_X12_termOf_37 ?_
        refine wa_iload 4 rfl E d_X12_termOf_40 ?_
        obtain ⟨g_17, h⟩ := kf_gd h
        refine wa_iald (kf_wtf hty 45 49 k_v0 (by decide) rfl) g_17 E d_X12_termOf_42 ?_
        refine wa_goto E d_X12_termOf_43 ?_
        refine wa_sub [1, 2, 3, 4] rfl ?_
        exact b_X12_termOf_58 E hty hrec5 v0 v2 v3 v4 (kf_rf v0 49) v3 (σ.1 (kf_rf v0 45) (Int32.toNatClampNeg v4)) k_v0 (kf_wtf hty 49 49 k_v0 (by decide) rfl) σ h
theorem b_X12_termOf_5 {X : kf_X} {G : kf_G} {q : (Int32 × kf_St)} (E : kf_ok X G cX12_termOf RX12 8 (some .int) (1)) (hty : kf_wt G) : ∀ (N : Nat) (v0 : Nat) (v2 : Int32) (v3 : Int32) (v4 : Int32) (k_v0 : kf_kd G v0 = 13) (σ : kf_St) (_ : f_X12_termOf_5 N v0 v2 v3 v4 σ = some q), kf_WA X G 8 (kf_Q X G (some (.int q.1)) q.2) 5 [(0, .ref (kf_ad G v0)), (2, .int v2), (3, .int v3), (4, .int v4)] [] σ
  | 0, _, _, _, _, _, _, h => by cases h
  | N + 1, v0, v2, v3, v4, k_v0, σ, h => b_X12_termOf_5_s _ E hty (b_X12_termOf_5 E hty N) v0 v2 v3 v4 k_v0 σ h
def f_X12_termOf (v0 : Nat) (v1 : Int32) (v2 : Int32) (σ : kf_St) : Option (Int32 × kf_St) :=
  f_X12_termOf_5 kf_F v0 v2 0 v1 σ
set_option maxRecDepth 100000 in
set_option maxHeartbeats 4000000 in
theorem c_X12_termOf {G : kf_G} (hty : kf_wt G) (v0 : Nat) (v1 : Int32) (v2 : Int32) (k_v0 : kf_kd G v0 = 13) (σ : kf_St) {q : (Int32 × kf_St)} (h : f_X12_termOf v0 v1 v2 σ = some q) : kf_Ct (1) yX12_termOf cX12_termOf 8 (some .int) G [.ref (kf_ad G v0), .int v1, .int v2] σ (some (.int q.1)) q.2 := by
  refine kf_Ct.of hty.1 (lv := [(0, .ref (kf_ad G v0)), (1, .int v1), (2, .int v2)]) (by decide +kernel) rfl (Nat.le_of_ble_eq_true rfl) (fun X E => ?_)
  unfold f_X12_termOf at h
  refine wa_iconst 0 ic_0 E d_X12_termOf_0 ?_
  refine wa_istore_n (lv' := [(3, .int 0), (0, .ref (kf_ad G v0)), (1, .int v1), (2, .int v2)]) rfl (by decide) rfl E d_X12_termOf_1 ?_
  refine wa_iload_n 2 rfl E d_X12_termOf_2 ?_
  refine wa_istore (lv' := [(4, .int v1), (3, .int 0), (0, .ref (kf_ad G v0)), (1, .int v1), (2, .int v2)]) (by decide) rfl E d_X12_termOf_3 ?_
  refine wa_sub [2, 4, 1, 0] rfl ?_
  exact b_X12_termOf_5 E hty kf_F v0 v2 0 v1 k_v0 σ h
/-! X12_in -/
theorem d_X12_in_0 : kf_dq cX12_in 0 1 1 (.iload_n 0) := ⟨by decide +kernel, rfl⟩
theorem d_X12_in_1 : kf_dq cX12_in 1 2 1 (.iload_n 1) := ⟨by decide +kernel, rfl⟩
theorem d_X12_in_2 : kf_dj cX12_in 2 5 14 (.if_icmp .lt) := ⟨12, by decide +kernel, rfl, by decide⟩
theorem d_X12_in_5 : kf_dq cX12_in 5 6 1 (.iload_n 0) := ⟨by decide +kernel, rfl⟩
theorem d_X12_in_6 : kf_dq cX12_in 6 7 1 (.iload_n 2) := ⟨by decide +kernel, rfl⟩
theorem d_X12_in_7 : kf_dj cX12_in 7 10 14 (.if_icmp .gt) := ⟨7, by decide +kernel, rfl, by decide⟩
theorem d_X12_in_10 : kf_dq cX12_in 10 11 1 (.iconst 1) := ⟨by decide +kernel, rfl⟩
theorem d_X12_in_11 : kf_dj cX12_in 11 14 15 .goto := ⟨4, by decide +kernel, rfl, by decide⟩
theorem d_X12_in_14 : kf_dq cX12_in 14 15 1 (.iconst 0) := ⟨by decide +kernel, rfl⟩
theorem d_X12_in_15 : kf_dq cX12_in 15 16 1 (.ireturn) := ⟨by decide +kernel, rfl⟩
def f_X12_in (v0 : Int32) (v1 : Int32) (v2 : Int32) (σ : kf_St) : Option (Int32 × kf_St) :=
  if v0 < v1 then
    some (0, σ)
  else
    if v2 < v0 then
      some (0, σ)
    else
      some (1, σ)
set_option maxRecDepth 100000 in
set_option maxHeartbeats 4000000 in
theorem c_X12_in {G : kf_G} (hty : kf_wt G) (v0 : Int32) (v1 : Int32) (v2 : Int32) (σ : kf_St) {q : (Int32 × kf_St)} (h : f_X12_in v0 v1 v2 σ = some q) : kf_Ct (1) yX12_in cX12_in 3 (some .boolean) G [.int v0, .int v1, .int v2] σ (some (.int q.1)) q.2 := by
  refine kf_Ct.of hty.1 (lv := [(0, .int v0), (1, .int v1), (2, .int v2)]) (by decide +kernel) rfl (Nat.le_of_ble_eq_true rfl) (fun X E => ?_)
  unfold f_X12_in at h
  refine wa_iload_n 0 rfl E d_X12_in_0 ?_
  refine wa_iload_n 1 rfl E d_X12_in_1 ?_
  refine wa_icmp_lt E d_X12_in_2 (fun c_1 => ?_) (fun c_1 => ?_)
  · replace h := kf_ift c_1 h
    refine wa_iconst 0 ic_0 E d_X12_in_14 ?_
    cases h
    exact wa_zret kf_z0 E d_X12_in_15
  · replace h := kf_iff c_1 h
    refine wa_iload_n 0 rfl E d_X12_in_5 ?_
    refine wa_iload_n 2 rfl E d_X12_in_6 ?_
    refine wa_icmp_gt E d_X12_in_7 (fun c_2 => ?_) (fun c_2 => ?_)
    · replace h := kf_ift c_2 h
      refine wa_iconst 0 ic_0 E d_X12_in_14 ?_
      cases h
      exact wa_zret kf_z0 E d_X12_in_15
    · replace h := kf_iff c_2 h
      refine wa_iconst 1 ic_1 E d_X12_in_10 ?_
      refine wa_goto E d_X12_in_11 ?_
      cases h
      exact wa_zret kf_z1 E d_X12_in_15
/-! X12_within -/
theorem d_X12_within_0 : kf_dq cX12_within 0 1 1 (.iload_n 0) := ⟨by decide +kernel, rfl⟩
theorem d_X12_within_1 : kf_dq cX12_within 1 2 1 (.iload_n 1) := ⟨by decide +kernel, rfl⟩
theorem d_X12_within_2 : kf_dj cX12_within 2 5 9 (.if_icmp .ge) := ⟨7, by decide +kernel, rfl, by decide⟩
theorem d_X12_within_5 : kf_dq cX12_within 5 6 1 (.iload_n 1) := ⟨by decide +kernel, rfl⟩
theorem d_X12_within_6 : kf_dj cX12_within 6 9 19 .goto := ⟨13, by decide +kernel, rfl, by decide⟩
theorem d_X12_within_9 : kf_dq cX12_within 9 10 1 (.iload_n 0) := ⟨by decide +kernel, rfl⟩
theorem d_X12_within_10 : kf_dq cX12_within 10 11 1 (.iload_n 2) := ⟨by decide +kernel, rfl⟩
theorem d_X12_within_11 : kf_dj cX12_within 11 14 18 (.if_icmp .le) := ⟨7, by decide +kernel, rfl, by decide⟩
theorem d_X12_within_14 : kf_dq cX12_within 14 15 1 (.iload_n 2) := ⟨by decide +kernel, rfl⟩
theorem d_X12_within_15 : kf_dj cX12_within 15 18 19 .goto := ⟨4, by decide +kernel, rfl, by decide⟩
theorem d_X12_within_18 : kf_dq cX12_within 18 19 1 (.iload_n 0) := ⟨by decide +kernel, rfl⟩
theorem d_X12_within_19 : kf_dq cX12_within 19 20 1 (.ireturn) := ⟨by decide +kernel, rfl⟩
def f_X12_within (v0 : Int32) (v1 : Int32) (v2 : Int32) (σ : kf_St) : Option (Int32 × kf_St) :=
  if v1 ≤ v0 then
    if v0 ≤ v2 then
      some (v0, σ)
    else
      some (v2, σ)
  else
    some (v1, σ)
set_option maxRecDepth 100000 in
set_option maxHeartbeats 4000000 in
theorem c_X12_within {G : kf_G} (hty : kf_wt G) (v0 : Int32) (v1 : Int32) (v2 : Int32) (σ : kf_St) {q : (Int32 × kf_St)} (h : f_X12_within v0 v1 v2 σ = some q) : kf_Ct (1) yX12_within cX12_within 3 (some .int) G [.int v0, .int v1, .int v2] σ (some (.int q.1)) q.2 := by
  refine kf_Ct.of hty.1 (lv := [(0, .int v0), (1, .int v1), (2, .int v2)]) (by decide +kernel) rfl (Nat.le_of_ble_eq_true rfl) (fun X E => ?_)
  unfold f_X12_within at h
  refine wa_iload_n 0 rfl E d_X12_within_0 ?_
  refine wa_iload_n 1 rfl E d_X12_within_1 ?_
  refine wa_icmp_ge E d_X12_within_2 (fun c_1 => ?_) (fun c_1 => ?_)
  · replace h := kf_ift c_1 h
    refine wa_iload_n 0 rfl E d_X12_within_9 ?_
    refine wa_iload_n 2 rfl E d_X12_within_10 ?_
    refine wa_icmp_le E d_X12_within_11 (fun c_2 => ?_) (fun c_2 => ?_)
    · replace h := kf_ift c_2 h
      refine wa_iload_n 0 rfl E d_X12_within_18 ?_
      cases h
      exact wa_iret E d_X12_within_19
    · replace h := kf_iff c_2 h
      refine wa_iload_n 2 rfl E d_X12_within_14 ?_
      refine wa_goto E d_X12_within_15 ?_
      cases h
      exact wa_iret E d_X12_within_19
  · replace h := kf_iff c_1 h
    refine wa_iload_n 1 rfl E d_X12_within_5 ?_
    refine wa_goto E d_X12_within_6 ?_
    cases h
    exact wa_iret E d_X12_within_19
/-! X12_bits -/
theorem d_X12_bits_0 : kf_dq cX12_bits 0 1 1 (.iconst 0) := ⟨by decide +kernel, rfl⟩
theorem d_X12_bits_1 : kf_dq cX12_bits 1 2 1 (.istore_n 1) := ⟨by decide +kernel, rfl⟩
theorem d_X12_bits_2 : kf_dq cX12_bits 2 3 1 (.iconst 0) := ⟨by decide +kernel, rfl⟩
theorem d_X12_bits_3 : kf_dq cX12_bits 3 4 1 (.istore_n 2) := ⟨by decide +kernel, rfl⟩
theorem d_X12_bits_4 : kf_dq cX12_bits 4 5 1 (.iload_n 2) := ⟨by decide +kernel, rfl⟩
theorem d_X12_bits_5 : kf_dq cX12_bits 5 7 2 (.bipush 10) := ⟨by decide +kernel, rfl⟩
theorem d_X12_bits_7 : kf_dj cX12_bits 7 10 24 (.if_icmp .ge) := ⟨17, by decide +kernel, rfl, by decide⟩
theorem d_X12_bits_10 : kf_dq cX12_bits 10 11 1 (.iload_n 1) := ⟨by decide +kernel, rfl⟩
theorem d_X12_bits_11 : kf_dq cX12_bits 11 12 1 (.iload_n 0) := ⟨by decide +kernel, rfl⟩
theorem d_X12_bits_12 : kf_dq cX12_bits 12 13 1 (.iload_n 2) := ⟨by decide +kernel, rfl⟩
theorem d_X12_bits_13 : kf_dq cX12_bits 13 14 1 (.ishr) := ⟨by decide +kernel, rfl⟩
theorem d_X12_bits_14 : kf_dq cX12_bits 14 15 1 (.iconst 1) := ⟨by decide +kernel, rfl⟩
theorem d_X12_bits_15 : kf_dq cX12_bits 15 16 1 (.iand) := ⟨by decide +kernel, rfl⟩
theorem d_X12_bits_16 : kf_dq cX12_bits 16 17 1 (.iadd) := ⟨by decide +kernel, rfl⟩
theorem d_X12_bits_17 : kf_dq cX12_bits 17 18 1 (.istore_n 1) := ⟨by decide +kernel, rfl⟩
theorem d_X12_bits_18 : kf_dq cX12_bits 18 21 3 (.iinc 2 1) := ⟨by decide +kernel, rfl⟩
theorem d_X12_bits_21 : kf_dj cX12_bits 21 24 4 .goto := ⟨(-17), by decide +kernel, rfl, by decide⟩
theorem d_X12_bits_24 : kf_dq cX12_bits 24 25 1 (.iload_n 1) := ⟨by decide +kernel, rfl⟩
theorem d_X12_bits_25 : kf_dq cX12_bits 25 26 1 (.ireturn) := ⟨by decide +kernel, rfl⟩
def f_X12_bits_4_s (rec4 : Int32 → Int32 → Int32 → kf_St → Option (Int32 × kf_St)) (v0 : Int32) (v1 : Int32) (v2 : Int32) (σ : kf_St) : Option (Int32 × kf_St) :=
  if 10 ≤ v2 then
    some (v1, σ)
  else
    kf_lt ((v1 + ((v0 >>> (v2 &&& 31)) &&& 1))) fun v1_2 =>
    kf_lt (v2 + 1) fun v2_3 =>
    rec4 v0 v1_2 v2_3 σ
def f_X12_bits_4 : Nat → Int32 → Int32 → Int32 → kf_St → Option (Int32 × kf_St)
  | 0, _, _, _, _ => none
  | n + 1, v0, v1, v2, σ => f_X12_bits_4_s (f_X12_bits_4 n) v0 v1 v2 σ
set_option maxRecDepth 100000 in
set_option maxHeartbeats 4000000 in
theorem b_X12_bits_4_s {X : kf_X} {G : kf_G} (rec4 : Int32 → Int32 → Int32 → kf_St → Option (Int32 × kf_St)) {q : (Int32 × kf_St)} (E : kf_ok X G cX12_bits RX12 3 (some .int) (1)) (hty : kf_wt G) (hrec4 : ∀ (v0 : Int32) (v1 : Int32) (v2 : Int32) (σ : kf_St), rec4 v0 v1 v2 σ = some q → kf_WA X G 3 (kf_Q X G (some (.int q.1)) q.2) 4 [(0, .int v0), (1, .int v1), (2, .int v2)] [] σ) (v0 : Int32) (v1 : Int32) (v2 : Int32) (σ : kf_St) (h : f_X12_bits_4_s rec4 v0 v1 v2 σ = some q) : kf_WA X G 3 (kf_Q X G (some (.int q.1)) q.2) 4 [(0, .int v0), (1, .int v1), (2, .int v2)] [] σ := by
  unfold f_X12_bits_4_s at h
  refine wa_iload_n 2 rfl E d_X12_bits_4 ?_
  refine wa_bipush 10 bp_10 E d_X12_bits_5 ?_
  refine wa_icmp_ge E d_X12_bits_7 (fun c_1 => ?_) (fun c_1 => ?_)
  · replace h := kf_ift c_1 h
    refine wa_iload_n 1 rfl E d_X12_bits_24 ?_
    cases h
    exact wa_iret E d_X12_bits_25
  · replace h := kf_iff c_1 h
    refine wa_iload_n 1 rfl E d_X12_bits_10 ?_
    refine wa_iload_n 0 rfl E d_X12_bits_11 ?_
    refine wa_iload_n 2 rfl E d_X12_bits_12 ?_
    refine wa_ishr E d_X12_bits_13 ?_
    refine wa_iconst 1 ic_1 E d_X12_bits_14 ?_
    refine wa_iand E d_X12_bits_15 ?_
    refine wa_iadd E d_X12_bits_16 ?_
    obtain ⟨v1_2, ev1_2, h⟩ := kf_lte h
    refine wa_topi ev1_2 ?_
    refine wa_istore_n (lv' := [(1, .int v1_2), (0, .int v0), (2, .int v2)]) rfl (by decide) rfl E d_X12_bits_17 ?_
    obtain ⟨v2_3, ev2_3, h⟩ := kf_lte h
    refine wa_iinc (lv' := [(2, .int v2_3), (1, .int v1_2), (0, .int v0)]) v2_3 2 rfl (kf_inc ic_1 ev2_3) (by decide) rfl E d_X12_bits_18 ?_
    refine wa_goto E d_X12_bits_21 ?_
    refine wa_sub [2, 1, 0] rfl ?_
    exact hrec4 v0 v1_2 v2_3 σ h
theorem b_X12_bits_4 {X : kf_X} {G : kf_G} {q : (Int32 × kf_St)} (E : kf_ok X G cX12_bits RX12 3 (some .int) (1)) (hty : kf_wt G) : ∀ (N : Nat) (v0 : Int32) (v1 : Int32) (v2 : Int32) (σ : kf_St) (_ : f_X12_bits_4 N v0 v1 v2 σ = some q), kf_WA X G 3 (kf_Q X G (some (.int q.1)) q.2) 4 [(0, .int v0), (1, .int v1), (2, .int v2)] [] σ
  | 0, _, _, _, _, h => by cases h
  | N + 1, v0, v1, v2, σ, h => b_X12_bits_4_s _ E hty (b_X12_bits_4 E hty N) v0 v1 v2 σ h
def f_X12_bits (v0 : Int32) (σ : kf_St) : Option (Int32 × kf_St) :=
  f_X12_bits_4 kf_F v0 0 0 σ
set_option maxRecDepth 100000 in
set_option maxHeartbeats 4000000 in
theorem c_X12_bits {G : kf_G} (hty : kf_wt G) (v0 : Int32) (σ : kf_St) {q : (Int32 × kf_St)} (h : f_X12_bits v0 σ = some q) : kf_Ct (1) yX12_bits cX12_bits 3 (some .int) G [.int v0] σ (some (.int q.1)) q.2 := by
  refine kf_Ct.of hty.1 (lv := [(0, .int v0)]) (by decide +kernel) rfl (Nat.le_of_ble_eq_true rfl) (fun X E => ?_)
  unfold f_X12_bits at h
  refine wa_iconst 0 ic_0 E d_X12_bits_0 ?_
  refine wa_istore_n (lv' := [(1, .int 0), (0, .int v0)]) rfl (by decide) rfl E d_X12_bits_1 ?_
  refine wa_iconst 0 ic_0 E d_X12_bits_2 ?_
  refine wa_istore_n (lv' := [(2, .int 0), (1, .int 0), (0, .int v0)]) rfl (by decide) rfl E d_X12_bits_3 ?_
  refine wa_sub [2, 1, 0] rfl ?_
  exact b_X12_bits_4 E hty kf_F v0 0 0 σ h
/-! X12_off -/
theorem d_X12_off_0 : kf_dq cX12_off 0 1 1 (.iload_n 0) := ⟨by decide +kernel, rfl⟩
theorem d_X12_off_1 : kf_dq cX12_off 1 2 1 (.iload_n 1) := ⟨by decide +kernel, rfl⟩
theorem d_X12_off_2 : kf_dj cX12_off 2 5 11 (.if_icmp .ge) := ⟨9, by decide +kernel, rfl, by decide⟩
theorem d_X12_off_5 : kf_dq cX12_off 5 6 1 (.iload_n 1) := ⟨by decide +kernel, rfl⟩
theorem d_X12_off_6 : kf_dq cX12_off 6 7 1 (.iload_n 0) := ⟨by decide +kernel, rfl⟩
theorem d_X12_off_7 : kf_dq cX12_off 7 8 1 (.isub) := ⟨by decide +kernel, rfl⟩
theorem d_X12_off_8 : kf_dj cX12_off 8 11 14 .goto := ⟨6, by decide +kernel, rfl, by decide⟩
theorem d_X12_off_11 : kf_dq cX12_off 11 12 1 (.iload_n 0) := ⟨by decide +kernel, rfl⟩
theorem d_X12_off_12 : kf_dq cX12_off 12 13 1 (.iload_n 1) := ⟨by decide +kernel, rfl⟩
theorem d_X12_off_13 : kf_dq cX12_off 13 14 1 (.isub) := ⟨by decide +kernel, rfl⟩
theorem d_X12_off_14 : kf_dq cX12_off 14 15 1 (.ireturn) := ⟨by decide +kernel, rfl⟩
def f_X12_off (v0 : Int32) (v1 : Int32) (σ : kf_St) : Option (Int32 × kf_St) :=
  if v1 ≤ v0 then
    some ((v0 - v1), σ)
  else
    some ((v1 - v0), σ)
set_option maxRecDepth 100000 in
set_option maxHeartbeats 4000000 in
theorem c_X12_off {G : kf_G} (hty : kf_wt G) (v0 : Int32) (v1 : Int32) (σ : kf_St) {q : (Int32 × kf_St)} (h : f_X12_off v0 v1 σ = some q) : kf_Ct (1) yX12_off cX12_off 2 (some .int) G [.int v0, .int v1] σ (some (.int q.1)) q.2 := by
  refine kf_Ct.of hty.1 (lv := [(0, .int v0), (1, .int v1)]) (by decide +kernel) rfl (Nat.le_of_ble_eq_true rfl) (fun X E => ?_)
  unfold f_X12_off at h
  refine wa_iload_n 0 rfl E d_X12_off_0 ?_
  refine wa_iload_n 1 rfl E d_X12_off_1 ?_
  refine wa_icmp_ge E d_X12_off_2 (fun c_1 => ?_) (fun c_1 => ?_)
  · replace h := kf_ift c_1 h
    refine wa_iload_n 0 rfl E d_X12_off_11 ?_
    refine wa_iload_n 1 rfl E d_X12_off_12 ?_
    refine wa_isub E d_X12_off_13 ?_
    cases h
    exact wa_iret E d_X12_off_14
  · replace h := kf_iff c_1 h
    refine wa_iload_n 1 rfl E d_X12_off_5 ?_
    refine wa_iload_n 0 rfl E d_X12_off_6 ?_
    refine wa_isub E d_X12_off_7 ?_
    refine wa_goto E d_X12_off_8 ?_
    cases h
    exact wa_iret E d_X12_off_14
/-! X12_isDoor -/
theorem d_X12_isDoor_0 : kf_dq cX12_isDoor 0 1 1 (.iload_n 1) := ⟨by decide +kernel, rfl⟩
theorem d_X12_isDoor_1 : kf_dq cX12_isDoor 1 2 1 (.iconst 0) := ⟨by decide +kernel, rfl⟩
theorem d_X12_isDoor_2 : kf_dq cX12_isDoor 2 3 1 (.aload_n 0) := ⟨by decide +kernel, rfl⟩
theorem d_X12_isDoor_3 : kf_dq cX12_isDoor 3 6 3 (.getfield 46) := ⟨by decide +kernel, rfl⟩
theorem d_X12_isDoor_6 : kf_dq cX12_isDoor 6 7 1 (.aload_n 0) := ⟨by decide +kernel, rfl⟩
theorem d_X12_isDoor_7 : kf_dq cX12_isDoor 7 10 3 (.getfield 233) := ⟨by decide +kernel, rfl⟩
theorem d_X12_isDoor_10 : kf_dq cX12_isDoor 10 11 1 (.iaload) := ⟨by decide +kernel, rfl⟩
theorem d_X12_isDoor_11 : kf_dq cX12_isDoor 11 12 1 (.iconst 1) := ⟨by decide +kernel, rfl⟩
theorem d_X12_isDoor_12 : kf_dq cX12_isDoor 12 13 1 (.isub) := ⟨by decide +kernel, rfl⟩
theorem d_X12_isDoor_13 : kf_dq cX12_isDoor 13 16 3 (.invokestatic 313) := ⟨by decide +kernel, rfl⟩
theorem d_X12_isDoor_16 : kf_dq cX12_isDoor 16 17 1 (.ireturn) := ⟨by decide +kernel, rfl⟩
def f_X12_isDoor (v0 : Nat) (v1 : Int32) (σ : kf_St) : Option (Int32 × kf_St) :=
  if kf_ix (σ.1 v0 18) (kf_ln (kf_rf v0 23)) = true then
  (f_X12_in v1 0 ((σ.1 (kf_rf v0 23) (Int32.toNatClampNeg (σ.1 v0 18))) - 1) σ).bind fun q_2 =>
  if kf_zb q_2.1 = true then some (q_2.1, q_2.2) else none
  else none
set_option maxRecDepth 100000 in
set_option maxHeartbeats 4000000 in
theorem c_X12_isDoor {G : kf_G} (hty : kf_wt G) (v0 : Nat) (v1 : Int32) (k_v0 : kf_kd G v0 = 13) (σ : kf_St) {q : (Int32 × kf_St)} (h : f_X12_isDoor v0 v1 σ = some q) : kf_Ct (2) yX12_isDoor cX12_isDoor 2 (some .boolean) G [.ref (kf_ad G v0), .int v1] σ (some (.int q.1)) q.2 := by
  refine kf_Ct.of hty.1 (lv := [(0, .ref (kf_ad G v0)), (1, .int v1)]) (by decide +kernel) rfl (Nat.le_of_ble_eq_true rfl) (fun X E => ?_)
  unfold f_X12_isDoor at h
  refine wa_iload_n 1 rfl E d_X12_isDoor_0 ?_
  refine wa_iconst 0 ic_0 E d_X12_isDoor_1 ?_
  refine wa_aload_n 0 rfl E d_X12_isDoor_2 ?_
  refine wa_getR fl_X12_46 k_v0 rfl E d_X12_isDoor_3 ?_
  refine wa_aload_n 0 rfl E d_X12_isDoor_6 ?_
  refine wa_getI fl_X12_233 k_v0 rfl E d_X12_isDoor_7 ?_
  obtain ⟨g_1, h⟩ := kf_gd h
  refine wa_iald (kf_wtf hty 23 49 k_v0 (by decide) rfl) g_1 E d_X12_isDoor_10 ?_
  refine wa_iconst 1 ic_1 E d_X12_isDoor_11 ?_
  refine wa_isub E d_X12_isDoor_12 ?_
  obtain ⟨q_2, hq_2, h⟩ := kf_bd h
  refine wa_callS (st2 := [.int q_2.1]) (c_X12_in hty v1 0 ((σ.1 (kf_rf v0 23) (Int32.toNatClampNeg (σ.1 v0 18))) - 1) σ hq_2) mt_X12_in ml_X12_313 rfl (Nat.le_of_ble_eq_true rfl) rfl (Nat.le_of_ble_eq_true rfl) E d_X12_isDoor_13 rfl ?_
  obtain ⟨g_3, h⟩ := kf_gd h
  cases h
  exact wa_zret (kf_zbn g_3) E d_X12_isDoor_16
/-! X12_isCaller -/
theorem d_X12_isCaller_0 : kf_dq cX12_isCaller 0 1 1 (.iload_n 1) := ⟨by decide +kernel, rfl⟩
theorem d_X12_isCaller_1 : kf_dq cX12_isCaller 1 2 1 (.iconst 0) := ⟨by decide +kernel, rfl⟩
theorem d_X12_isCaller_2 : kf_dq cX12_isCaller 2 3 1 (.aload_n 0) := ⟨by decide +kernel, rfl⟩
theorem d_X12_isCaller_3 : kf_dq cX12_isCaller 3 6 3 (.getfield 52) := ⟨by decide +kernel, rfl⟩
theorem d_X12_isCaller_6 : kf_dq cX12_isCaller 6 7 1 (.aload_n 0) := ⟨by decide +kernel, rfl⟩
theorem d_X12_isCaller_7 : kf_dq cX12_isCaller 7 10 3 (.getfield 233) := ⟨by decide +kernel, rfl⟩
theorem d_X12_isCaller_10 : kf_dq cX12_isCaller 10 11 1 (.iaload) := ⟨by decide +kernel, rfl⟩
theorem d_X12_isCaller_11 : kf_dq cX12_isCaller 11 12 1 (.iconst 1) := ⟨by decide +kernel, rfl⟩
theorem d_X12_isCaller_12 : kf_dq cX12_isCaller 12 13 1 (.isub) := ⟨by decide +kernel, rfl⟩
theorem d_X12_isCaller_13 : kf_dq cX12_isCaller 13 16 3 (.invokestatic 313) := ⟨by decide +kernel, rfl⟩
theorem d_X12_isCaller_16 : kf_dq cX12_isCaller 16 17 1 (.ireturn) := ⟨by decide +kernel, rfl⟩
def f_X12_isCaller (v0 : Nat) (v1 : Int32) (σ : kf_St) : Option (Int32 × kf_St) :=
  if kf_ix (σ.1 v0 18) (kf_ln (kf_rf v0 25)) = true then
  (f_X12_in v1 0 ((σ.1 (kf_rf v0 25) (Int32.toNatClampNeg (σ.1 v0 18))) - 1) σ).bind fun q_2 =>
  if kf_zb q_2.1 = true then some (q_2.1, q_2.2) else none
  else none
set_option maxRecDepth 100000 in
set_option maxHeartbeats 4000000 in
theorem c_X12_isCaller {G : kf_G} (hty : kf_wt G) (v0 : Nat) (v1 : Int32) (k_v0 : kf_kd G v0 = 13) (σ : kf_St) {q : (Int32 × kf_St)} (h : f_X12_isCaller v0 v1 σ = some q) : kf_Ct (2) yX12_isCaller cX12_isCaller 2 (some .boolean) G [.ref (kf_ad G v0), .int v1] σ (some (.int q.1)) q.2 := by
  refine kf_Ct.of hty.1 (lv := [(0, .ref (kf_ad G v0)), (1, .int v1)]) (by decide +kernel) rfl (Nat.le_of_ble_eq_true rfl) (fun X E => ?_)
  unfold f_X12_isCaller at h
  refine wa_iload_n 1 rfl E d_X12_isCaller_0 ?_
  refine wa_iconst 0 ic_0 E d_X12_isCaller_1 ?_
  refine wa_aload_n 0 rfl E d_X12_isCaller_2 ?_
  refine wa_getR fl_X12_52 k_v0 rfl E d_X12_isCaller_3 ?_
  refine wa_aload_n 0 rfl E d_X12_isCaller_6 ?_
  refine wa_getI fl_X12_233 k_v0 rfl E d_X12_isCaller_7 ?_
  obtain ⟨g_1, h⟩ := kf_gd h
  refine wa_iald (kf_wtf hty 25 49 k_v0 (by decide) rfl) g_1 E d_X12_isCaller_10 ?_
  refine wa_iconst 1 ic_1 E d_X12_isCaller_11 ?_
  refine wa_isub E d_X12_isCaller_12 ?_
  obtain ⟨q_2, hq_2, h⟩ := kf_bd h
  refine wa_callS (st2 := [.int q_2.1]) (c_X12_in hty v1 0 ((σ.1 (kf_rf v0 25) (Int32.toNatClampNeg (σ.1 v0 18))) - 1) σ hq_2) mt_X12_in ml_X12_313 rfl (Nat.le_of_ble_eq_true rfl) rfl (Nat.le_of_ble_eq_true rfl) E d_X12_isCaller_13 rfl ?_
  obtain ⟨g_3, h⟩ := kf_gd h
  cases h
  exact wa_zret (kf_zbn g_3) E d_X12_isCaller_16
/-! X12_isRound -/
theorem d_X12_isRound_0 : kf_dq cX12_isRound 0 1 1 (.iload_n 1) := ⟨by decide +kernel, rfl⟩
theorem d_X12_isRound_1 : kf_dq cX12_isRound 1 2 1 (.iconst 0) := ⟨by decide +kernel, rfl⟩
theorem d_X12_isRound_2 : kf_dq cX12_isRound 2 3 1 (.aload_n 0) := ⟨by decide +kernel, rfl⟩
theorem d_X12_isRound_3 : kf_dq cX12_isRound 3 6 3 (.getfield 58) := ⟨by decide +kernel, rfl⟩
theorem d_X12_isRound_6 : kf_dq cX12_isRound 6 7 1 (.aload_n 0) := ⟨by decide +kernel, rfl⟩
theorem d_X12_isRound_7 : kf_dq cX12_isRound 7 10 3 (.getfield 233) := ⟨by decide +kernel, rfl⟩
theorem d_X12_isRound_10 : kf_dq cX12_isRound 10 11 1 (.iaload) := ⟨by decide +kernel, rfl⟩
theorem d_X12_isRound_11 : kf_dq cX12_isRound 11 12 1 (.iconst 1) := ⟨by decide +kernel, rfl⟩
theorem d_X12_isRound_12 : kf_dq cX12_isRound 12 13 1 (.isub) := ⟨by decide +kernel, rfl⟩
theorem d_X12_isRound_13 : kf_dq cX12_isRound 13 16 3 (.invokestatic 313) := ⟨by decide +kernel, rfl⟩
theorem d_X12_isRound_16 : kf_dq cX12_isRound 16 17 1 (.ireturn) := ⟨by decide +kernel, rfl⟩
def f_X12_isRound (v0 : Nat) (v1 : Int32) (σ : kf_St) : Option (Int32 × kf_St) :=
  if kf_ix (σ.1 v0 18) (kf_ln (kf_rf v0 27)) = true then
  (f_X12_in v1 0 ((σ.1 (kf_rf v0 27) (Int32.toNatClampNeg (σ.1 v0 18))) - 1) σ).bind fun q_2 =>
  if kf_zb q_2.1 = true then some (q_2.1, q_2.2) else none
  else none
set_option maxRecDepth 100000 in
set_option maxHeartbeats 4000000 in
theorem c_X12_isRound {G : kf_G} (hty : kf_wt G) (v0 : Nat) (v1 : Int32) (k_v0 : kf_kd G v0 = 13) (σ : kf_St) {q : (Int32 × kf_St)} (h : f_X12_isRound v0 v1 σ = some q) : kf_Ct (2) yX12_isRound cX12_isRound 2 (some .boolean) G [.ref (kf_ad G v0), .int v1] σ (some (.int q.1)) q.2 := by
  refine kf_Ct.of hty.1 (lv := [(0, .ref (kf_ad G v0)), (1, .int v1)]) (by decide +kernel) rfl (Nat.le_of_ble_eq_true rfl) (fun X E => ?_)
  unfold f_X12_isRound at h
  refine wa_iload_n 1 rfl E d_X12_isRound_0 ?_
  refine wa_iconst 0 ic_0 E d_X12_isRound_1 ?_
  refine wa_aload_n 0 rfl E d_X12_isRound_2 ?_
  refine wa_getR fl_X12_58 k_v0 rfl E d_X12_isRound_3 ?_
  refine wa_aload_n 0 rfl E d_X12_isRound_6 ?_
  refine wa_getI fl_X12_233 k_v0 rfl E d_X12_isRound_7 ?_
  obtain ⟨g_1, h⟩ := kf_gd h
  refine wa_iald (kf_wtf hty 27 49 k_v0 (by decide) rfl) g_1 E d_X12_isRound_10 ?_
  refine wa_iconst 1 ic_1 E d_X12_isRound_11 ?_
  refine wa_isub E d_X12_isRound_12 ?_
  obtain ⟨q_2, hq_2, h⟩ := kf_bd h
  refine wa_callS (st2 := [.int q_2.1]) (c_X12_in hty v1 0 ((σ.1 (kf_rf v0 27) (Int32.toNatClampNeg (σ.1 v0 18))) - 1) σ hq_2) mt_X12_in ml_X12_313 rfl (Nat.le_of_ble_eq_true rfl) rfl (Nat.le_of_ble_eq_true rfl) E d_X12_isRound_13 rfl ?_
  obtain ⟨g_3, h⟩ := kf_gd h
  cases h
  exact wa_zret (kf_zbn g_3) E d_X12_isRound_16
/-! X12_copies -/
theorem d_X12_copies_0 : kf_dq cX12_copies 0 1 1 (.iconst 0) := ⟨by decide +kernel, rfl⟩
theorem d_X12_copies_1 : kf_dq cX12_copies 1 2 1 (.istore_n 1) := ⟨by decide +kernel, rfl⟩
theorem d_X12_copies_2 : kf_dq cX12_copies 2 3 1 (.iload_n 1) := ⟨by decide +kernel, rfl⟩
theorem d_X12_copies_3 : kf_dq cX12_copies 3 5 2 (.bipush 70) := ⟨by decide +kernel, rfl⟩
theorem d_X12_copies_5 : kf_dj cX12_copies 5 8 26 (.if_icmp .ge) := ⟨21, by decide +kernel, rfl, by decide⟩
theorem d_X12_copies_8 : kf_dq cX12_copies 8 9 1 (.aload_n 0) := ⟨by decide +kernel, rfl⟩
theorem d_X12_copies_9 : kf_dq cX12_copies 9 12 3 (.getfield 122) := ⟨by decide +kernel, rfl⟩
theorem d_X12_copies_12 : kf_dq cX12_copies 12 13 1 (.iload_n 1) := ⟨by decide +kernel, rfl⟩
theorem d_X12_copies_13 : kf_dq cX12_copies 13 14 1 (.aload_n 0) := ⟨by decide +kernel, rfl⟩
theorem d_X12_copies_14 : kf_dq cX12_copies 14 17 3 (.getfield 119) := ⟨by decide +kernel, rfl⟩
theorem d_X12_copies_17 : kf_dq cX12_copies 17 18 1 (.iload_n 1) := ⟨by decide +kernel, rfl⟩
theorem d_X12_copies_18 : kf_dq cX12_copies 18 19 1 (.iaload) := ⟨by decide +kernel, rfl⟩
theorem d_X12_copies_19 : kf_dq cX12_copies 19 20 1 (.iastore) := ⟨by decide +kernel, rfl⟩
theorem d_X12_copies_20 : kf_dq cX12_copies 20 23 3 (.iinc 1 1) := ⟨by decide +kernel, rfl⟩
theorem d_X12_copies_23 : kf_dj cX12_copies 23 26 2 .goto := ⟨(-21), by decide +kernel, rfl, by decide⟩
theorem d_X12_copies_26 : kf_dq cX12_copies 26 27 1 (.aload_n 0) := ⟨by decide +kernel, rfl⟩
theorem d_X12_copies_27 : kf_dq cX12_copies 27 28 1 (.aload_n 0) := ⟨by decide +kernel, rfl⟩
theorem d_X12_copies_28 : kf_dq cX12_copies 28 31 3 (.getfield 79) := ⟨by decide +kernel, rfl⟩
theorem d_X12_copies_31 : kf_dq cX12_copies 31 32 1 (.aload_n 0) := ⟨by decide +kernel, rfl⟩
theorem d_X12_copies_32 : kf_dq cX12_copies 32 35 3 (.getfield 233) := ⟨by decide +kernel, rfl⟩
theorem d_X12_copies_35 : kf_dq cX12_copies 35 36 1 (.iaload) := ⟨by decide +kernel, rfl⟩
theorem d_X12_copies_36 : kf_dq cX12_copies 36 39 3 (.putfield 317) := ⟨by decide +kernel, rfl⟩
theorem d_X12_copies_39 : kf_dq cX12_copies 39 40 1 (.aload_n 0) := ⟨by decide +kernel, rfl⟩
theorem d_X12_copies_40 : kf_dq cX12_copies 40 41 1 (.iconst 0) := ⟨by decide +kernel, rfl⟩
theorem d_X12_copies_41 : kf_dq cX12_copies 41 44 3 (.putfield 320) := ⟨by decide +kernel, rfl⟩
theorem d_X12_copies_44 : kf_dq cX12_copies 44 45 1 (.return_) := ⟨by decide +kernel, rfl⟩
def f_X12_copies_2_s (rec2 : Nat → Int32 → kf_St → Option kf_St) (v0 : Nat) (v1 : Int32) (σ : kf_St) : Option kf_St :=
  if 70 ≤ v1 then
    if kf_ix (σ.1 v0 18) (kf_ln (kf_rf v0 34)) = true then
    kf_lt (kf_wi σ v0 53 (σ.1 (kf_rf v0 34) (Int32.toNatClampNeg (σ.1 v0 18)))) fun σ_3 =>
    kf_lt (kf_wi σ_3 v0 54 0) fun σ_4 =>
    some σ_4
    else none
  else
    if kf_ix v1 (kf_ln (kf_rf v0 51)) = true then
    if kf_ix v1 (kf_ln (kf_rf v0 52)) = true then
    kf_lt (kf_wi σ (kf_rf v0 52) (Int32.toNatClampNeg v1) (σ.1 (kf_rf v0 51) (Int32.toNatClampNeg v1))) fun σ_7 =>
    kf_lt (v1 + 1) fun v1_8 =>
    rec2 v0 v1_8 σ_7
    else none
    else none
def f_X12_copies_2 : Nat → Nat → Int32 → kf_St → Option kf_St
  | 0, _, _, _ => none
  | n + 1, v0, v1, σ => f_X12_copies_2_s (f_X12_copies_2 n) v0 v1 σ
set_option maxRecDepth 100000 in
set_option maxHeartbeats 4000000 in
theorem b_X12_copies_2_s {X : kf_X} {G : kf_G} (rec2 : Nat → Int32 → kf_St → Option kf_St) {q : kf_St} (E : kf_ok X G cX12_copies RX12 2 none (1)) (hty : kf_wt G) (hrec2 : ∀ (v0 : Nat) (v1 : Int32) (k_v0 : kf_kd G v0 = 13) (σ : kf_St), rec2 v0 v1 σ = some q → kf_WA X G 2 (kf_Q X G none q) 2 [(0, .ref (kf_ad G v0)), (1, .int v1)] [] σ) (v0 : Nat) (v1 : Int32) (k_v0 : kf_kd G v0 = 13) (σ : kf_St) (h : f_X12_copies_2_s rec2 v0 v1 σ = some q) : kf_WA X G 2 (kf_Q X G none q) 2 [(0, .ref (kf_ad G v0)), (1, .int v1)] [] σ := by
  unfold f_X12_copies_2_s at h
  refine wa_iload_n 1 rfl E d_X12_copies_2 ?_
  refine wa_bipush 70 bp_70 E d_X12_copies_3 ?_
  refine wa_icmp_ge E d_X12_copies_5 (fun c_1 => ?_) (fun c_1 => ?_)
  · replace h := kf_ift c_1 h
    refine wa_aload_n 0 rfl E d_X12_copies_26 ?_
    refine wa_aload_n 0 rfl E d_X12_copies_27 ?_
    refine wa_getR fl_X12_79 k_v0 rfl E d_X12_copies_28 ?_
    refine wa_aload_n 0 rfl E d_X12_copies_31 ?_
    refine wa_getI fl_X12_233 k_v0 rfl E d_X12_copies_32 ?_
    obtain ⟨g_2, h⟩ := kf_gd h
    refine wa_iald (kf_wtf hty 34 49 k_v0 (by decide) rfl) g_2 E d_X12_copies_35 ?_
    obtain ⟨σ_3, eσ_3, h⟩ := kf_lte h
    refine wa_putI fl_X12_317 fp_12_53 k_v0 rfl (by decide) rfl rfl E d_X12_copies_36 eσ_3 ?_
    refine wa_aload_n 0 rfl E d_X12_copies_39 ?_
    refine wa_iconst 0 ic_0 E d_X12_copies_40 ?_
    obtain ⟨σ_4, eσ_4, h⟩ := kf_lte h
    refine wa_putI fl_X12_320 fp_12_54 k_v0 rfl (by decide) kf_z0 kf_f0 E d_X12_copies_41 eσ_4 ?_
    cases h
    exact wa_vret E d_X12_copies_44
  · replace h := kf_iff c_1 h
    refine wa_aload_n 0 rfl E d_X12_copies_8 ?_
    refine wa_getR fl_X12_122 k_v0 rfl E d_X12_copies_9 ?_
    refine wa_iload_n 1 rfl E d_X12_copies_12 ?_
    refine wa_aload_n 0 rfl E d_X12_copies_13 ?_
    refine wa_getR fl_X12_119 k_v0 rfl E d_X12_copies_14 ?_
    refine wa_iload_n 1 rfl E d_X12_copies_17 ?_
    obtain ⟨g_5, h⟩ := kf_gd h
    refine wa_iald (kf_wtf hty 51 49 k_v0 (by decide) rfl) g_5 E d_X12_copies_18 ?_
    obtain ⟨g_6, h⟩ := kf_gd h
    obtain ⟨σ_7, eσ_7, h⟩ := kf_lte h
    refine wa_iast (kf_wtf hty 52 49 k_v0 (by decide) rfl) g_6 E d_X12_copies_19 eσ_7 ?_
    obtain ⟨v1_8, ev1_8, h⟩ := kf_lte h
    refine wa_iinc (lv' := [(1, .int v1_8), (0, .ref (kf_ad G v0))]) v1_8 1 rfl (kf_inc ic_1 ev1_8) (by decide) rfl E d_X12_copies_20 ?_
    refine wa_goto E d_X12_copies_23 ?_
    refine wa_sub [1, 0] rfl ?_
    exact hrec2 v0 v1_8 k_v0 σ_7 h
theorem b_X12_copies_2 {X : kf_X} {G : kf_G} {q : kf_St} (E : kf_ok X G cX12_copies RX12 2 none (1)) (hty : kf_wt G) : ∀ (N : Nat) (v0 : Nat) (v1 : Int32) (k_v0 : kf_kd G v0 = 13) (σ : kf_St) (_ : f_X12_copies_2 N v0 v1 σ = some q), kf_WA X G 2 (kf_Q X G none q) 2 [(0, .ref (kf_ad G v0)), (1, .int v1)] [] σ
  | 0, _, _, _, _, h => by cases h
  | N + 1, v0, v1, k_v0, σ, h => b_X12_copies_2_s _ E hty (b_X12_copies_2 E hty N) v0 v1 k_v0 σ h
def f_X12_copies (v0 : Nat) (σ : kf_St) : Option kf_St :=
  f_X12_copies_2 kf_F v0 0 σ
set_option maxRecDepth 100000 in
set_option maxHeartbeats 4000000 in
theorem c_X12_copies {G : kf_G} (hty : kf_wt G) (v0 : Nat) (k_v0 : kf_kd G v0 = 13) (σ : kf_St) {q : kf_St} (h : f_X12_copies v0 σ = some q) : kf_Ct (1) yX12_copies cX12_copies 2 none G [.ref (kf_ad G v0)] σ none q := by
  refine kf_Ct.of hty.1 (lv := [(0, .ref (kf_ad G v0))]) (by decide +kernel) rfl (Nat.le_of_ble_eq_true rfl) (fun X E => ?_)
  unfold f_X12_copies at h
  refine wa_iconst 0 ic_0 E d_X12_copies_0 ?_
  refine wa_istore_n (lv' := [(1, .int 0), (0, .ref (kf_ad G v0))]) rfl (by decide) rfl E d_X12_copies_1 ?_
  refine wa_sub [1, 0] rfl ?_
  exact b_X12_copies_2 E hty kf_F v0 0 k_v0 σ h
/-! X12_copiesStill -/
theorem d_X12_copiesStill_0 : kf_dq cX12_copiesStill 0 1 1 (.aload_n 0) := ⟨by decide +kernel, rfl⟩
theorem d_X12_copiesStill_1 : kf_dq cX12_copiesStill 1 4 3 (.invokevirtual 323) := ⟨by decide +kernel, rfl⟩
theorem d_X12_copiesStill_4 : kf_dq cX12_copiesStill 4 5 1 (.aload_n 0) := ⟨by decide +kernel, rfl⟩
theorem d_X12_copiesStill_5 : kf_dq cX12_copiesStill 5 6 1 (.iconst 1) := ⟨by decide +kernel, rfl⟩
theorem d_X12_copiesStill_6 : kf_dq cX12_copiesStill 6 9 3 (.putfield 320) := ⟨by decide +kernel, rfl⟩
theorem d_X12_copiesStill_9 : kf_dq cX12_copiesStill 9 10 1 (.return_) := ⟨by decide +kernel, rfl⟩
def f_X12_copiesStill (v0 : Nat) (σ : kf_St) : Option kf_St :=
  (f_X12_copies v0 σ).bind fun q_1 =>
  kf_lt (kf_wi q_1 v0 54 1) fun σ_2 =>
  some σ_2
set_option maxRecDepth 100000 in
set_option maxHeartbeats 4000000 in
theorem c_X12_copiesStill {G : kf_G} (hty : kf_wt G) (v0 : Nat) (k_v0 : kf_kd G v0 = 13) (σ : kf_St) {q : kf_St} (h : f_X12_copiesStill v0 σ = some q) : kf_Ct (2) yX12_copiesStill cX12_copiesStill 1 none G [.ref (kf_ad G v0)] σ none q := by
  refine kf_Ct.of hty.1 (lv := [(0, .ref (kf_ad G v0))]) (by decide +kernel) rfl (Nat.le_of_ble_eq_true rfl) (fun X E => ?_)
  unfold f_X12_copiesStill at h
  refine wa_aload_n 0 rfl E d_X12_copiesStill_0 ?_
  obtain ⟨q_1, hq_1, h⟩ := kf_bd h
  refine wa_callV (st2 := []) (c_X12_copies hty v0 k_v0 σ hq_1) mv_X12_copies ml_X12_323 k_v0 rfl (Nat.le_of_ble_eq_true rfl) rfl (Nat.le_of_ble_eq_true rfl) E d_X12_copiesStill_1 rfl ?_
  refine wa_aload_n 0 rfl E d_X12_copiesStill_4 ?_
  refine wa_iconst 1 ic_1 E d_X12_copiesStill_5 ?_
  obtain ⟨σ_2, eσ_2, h⟩ := kf_lte h
  refine wa_putI fl_X12_320 fp_12_54 k_v0 rfl (by decide) kf_z1 kf_f1 E d_X12_copiesStill_6 eσ_2 ?_
  cases h
  exact wa_vret E d_X12_copiesStill_9
/-! X12_mixed -/
theorem d_X12_mixed_0 : kf_dq cX12_mixed 0 1 1 (.iload_n 0) := ⟨by decide +kernel, rfl⟩
theorem d_X12_mixed_1 : kf_dq cX12_mixed 1 2 1 (.iload_n 1) := ⟨by decide +kernel, rfl⟩
theorem d_X12_mixed_2 : kf_dq cX12_mixed 2 3 1 (.ixor) := ⟨by decide +kernel, rfl⟩
theorem d_X12_mixed_3 : kf_dq cX12_mixed 3 6 3 (.ldc_w 326) := ⟨by decide +kernel, rfl⟩
theorem d_X12_mixed_6 : kf_dq cX12_mixed 6 7 1 (.imul) := ⟨by decide +kernel, rfl⟩
theorem d_X12_mixed_7 : kf_dq cX12_mixed 7 10 3 (.sipush 12345) := ⟨by decide +kernel, rfl⟩
theorem d_X12_mixed_10 : kf_dq cX12_mixed 10 11 1 (.iadd) := ⟨by decide +kernel, rfl⟩
theorem d_X12_mixed_11 : kf_dq cX12_mixed 11 12 1 (.istore_n 2) := ⟨by decide +kernel, rfl⟩
theorem d_X12_mixed_12 : kf_dq cX12_mixed 12 13 1 (.iload_n 2) := ⟨by decide +kernel, rfl⟩
theorem d_X12_mixed_13 : kf_dq cX12_mixed 13 14 1 (.iload_n 2) := ⟨by decide +kernel, rfl⟩
theorem d_X12_mixed_14 : kf_dq cX12_mixed 14 16 2 (.bipush 15) := ⟨by decide +kernel, rfl⟩
theorem d_X12_mixed_16 : kf_dq cX12_mixed 16 17 1 (.iushr) := ⟨by decide +kernel, rfl⟩
theorem d_X12_mixed_17 : kf_dq cX12_mixed 17 18 1 (.ixor) := ⟨by decide +kernel, rfl⟩
theorem d_X12_mixed_18 : kf_dq cX12_mixed 18 19 1 (.ireturn) := ⟨by decide +kernel, rfl⟩
def f_X12_mixed (v0 : Int32) (v1 : Int32) (σ : kf_St) : Option (Int32 × kf_St) :=
  kf_lt ((((v0 ^^^ v1) * 1103515245) + 12345)) fun v2_1 =>
  some ((v2_1 ^^^ ((Int32.toUInt32 v2_1) >>> ((Int32.toUInt32 15) &&& Int32.toUInt32 31)).toInt32), σ)
set_option maxRecDepth 100000 in
set_option maxHeartbeats 4000000 in
theorem c_X12_mixed {G : kf_G} (hty : kf_wt G) (v0 : Int32) (v1 : Int32) (σ : kf_St) {q : (Int32 × kf_St)} (h : f_X12_mixed v0 v1 σ = some q) : kf_Ct (1) yX12_mixed cX12_mixed 3 (some .int) G [.int v0, .int v1] σ (some (.int q.1)) q.2 := by
  refine kf_Ct.of hty.1 (lv := [(0, .int v0), (1, .int v1)]) (by decide +kernel) rfl (Nat.le_of_ble_eq_true rfl) (fun X E => ?_)
  unfold f_X12_mixed at h
  refine wa_iload_n 0 rfl E d_X12_mixed_0 ?_
  refine wa_iload_n 1 rfl E d_X12_mixed_1 ?_
  refine wa_ixor E d_X12_mixed_2 ?_
  refine wa_ldcw cst_X12_326 E d_X12_mixed_3 ?_
  refine wa_imul E d_X12_mixed_6 ?_
  refine wa_sipush 12345 sp_12345 E d_X12_mixed_7 ?_
  refine wa_iadd E d_X12_mixed_10 ?_
  obtain ⟨v2_1, ev2_1, h⟩ := kf_lte h
  refine wa_topi ev2_1 ?_
  refine wa_istore_n (lv' := [(2, .int v2_1), (0, .int v0), (1, .int v1)]) rfl (by decide) rfl E d_X12_mixed_11 ?_
  refine wa_iload_n 0 rfl E d_X12_mixed_12 ?_
  refine wa_iload_n 0 rfl E d_X12_mixed_13 ?_
  refine wa_bipush 15 bp_15 E d_X12_mixed_14 ?_
  refine wa_iushr E d_X12_mixed_16 ?_
  refine wa_ixor E d_X12_mixed_17 ?_
  cases h
  exact wa_iret E d_X12_mixed_18
/-! X12_lotOf -/
theorem d_X12_lotOf_0 : kf_dq cX12_lotOf 0 1 1 (.aload_n 0) := ⟨by decide +kernel, rfl⟩
theorem d_X12_lotOf_1 : kf_dq cX12_lotOf 1 4 3 (.getfield 317) := ⟨by decide +kernel, rfl⟩
theorem d_X12_lotOf_4 : kf_dq cX12_lotOf 4 7 3 (.sipush 151) := ⟨by decide +kernel, rfl⟩
theorem d_X12_lotOf_7 : kf_dq cX12_lotOf 7 10 3 (.invokestatic 327) := ⟨by decide +kernel, rfl⟩
theorem d_X12_lotOf_10 : kf_dq cX12_lotOf 10 11 1 (.iload_n 1) := ⟨by decide +kernel, rfl⟩
theorem d_X12_lotOf_11 : kf_dq cX12_lotOf 11 14 3 (.invokestatic 327) := ⟨by decide +kernel, rfl⟩
theorem d_X12_lotOf_14 : kf_dq cX12_lotOf 14 15 1 (.iconst 1) := ⟨by decide +kernel, rfl⟩
theorem d_X12_lotOf_15 : kf_dq cX12_lotOf 15 16 1 (.iushr) := ⟨by decide +kernel, rfl⟩
theorem d_X12_lotOf_16 : kf_dq cX12_lotOf 16 17 1 (.iload_n 2) := ⟨by decide +kernel, rfl⟩
theorem d_X12_lotOf_17 : kf_dq cX12_lotOf 17 18 1 (.irem) := ⟨by decide +kernel, rfl⟩
theorem d_X12_lotOf_18 : kf_dq cX12_lotOf 18 19 1 (.ireturn) := ⟨by decide +kernel, rfl⟩
def f_X12_lotOf (v0 : Nat) (v1 : Int32) (v2 : Int32) (σ : kf_St) : Option (Int32 × kf_St) :=
  (f_X12_mixed (σ.1 v0 53) 151 σ).bind fun q_1 =>
  (f_X12_mixed q_1.1 v1 q_1.2).bind fun q_2 =>
  if v2 = 0 then none else
  some ((((Int32.toUInt32 q_2.1) >>> ((Int32.toUInt32 1) &&& Int32.toUInt32 31)).toInt32 - ((Int32.toUInt32 q_2.1) >>> ((Int32.toUInt32 1) &&& Int32.toUInt32 31)).toInt32 / v2 * v2), q_2.2)
set_option maxRecDepth 100000 in
set_option maxHeartbeats 4000000 in
theorem c_X12_lotOf {G : kf_G} (hty : kf_wt G) (v0 : Nat) (v1 : Int32) (v2 : Int32) (k_v0 : kf_kd G v0 = 13) (σ : kf_St) {q : (Int32 × kf_St)} (h : f_X12_lotOf v0 v1 v2 σ = some q) : kf_Ct (2) yX12_lotOf cX12_lotOf 3 (some .int) G [.ref (kf_ad G v0), .int v1, .int v2] σ (some (.int q.1)) q.2 := by
  refine kf_Ct.of hty.1 (lv := [(0, .ref (kf_ad G v0)), (1, .int v1), (2, .int v2)]) (by decide +kernel) rfl (Nat.le_of_ble_eq_true rfl) (fun X E => ?_)
  unfold f_X12_lotOf at h
  refine wa_aload_n 0 rfl E d_X12_lotOf_0 ?_
  refine wa_getI fl_X12_317 k_v0 rfl E d_X12_lotOf_1 ?_
  refine wa_sipush 151 sp_151 E d_X12_lotOf_4 ?_
  obtain ⟨q_1, hq_1, h⟩ := kf_bd h
  refine wa_callS (st2 := [.int q_1.1]) (c_X12_mixed hty (σ.1 v0 53) 151 σ hq_1) mt_X12_mixed ml_X12_327 rfl (Nat.le_of_ble_eq_true rfl) rfl (Nat.le_of_ble_eq_true rfl) E d_X12_lotOf_7 rfl ?_
  refine wa_iload_n 1 rfl E d_X12_lotOf_10 ?_
  obtain ⟨q_2, hq_2, h⟩ := kf_bd h
  refine wa_callS (st2 := [.int q_2.1]) (c_X12_mixed hty q_1.1 v1 q_1.2 hq_2) mt_X12_mixed ml_X12_327 rfl (Nat.le_of_ble_eq_true rfl) rfl (Nat.le_of_ble_eq_true rfl) E d_X12_lotOf_11 rfl ?_
  refine wa_iconst 1 ic_1 E d_X12_lotOf_14 ?_
  refine wa_iushr E d_X12_lotOf_15 ?_
  refine wa_iload_n 2 rfl E d_X12_lotOf_16 ?_
  obtain ⟨g_3, h⟩ := kf_gn h
  refine wa_irem g_3 E d_X12_lotOf_17 ?_
  cases h
  exact wa_iret E d_X12_lotOf_18
/-! X12_isWind -/
theorem d_X12_isWind_0 : kf_dq cX12_isWind 0 1 1 (.aload_n 0) := ⟨by decide +kernel, rfl⟩
theorem d_X12_isWind_1 : kf_dq cX12_isWind 1 3 2 (.bipush 16) := ⟨by decide +kernel, rfl⟩
theorem d_X12_isWind_3 : kf_dq cX12_isWind 3 4 1 (.aload_n 0) := ⟨by decide +kernel, rfl⟩
theorem d_X12_isWind_4 : kf_dq cX12_isWind 4 7 3 (.getfield 122) := ⟨by decide +kernel, rfl⟩
theorem d_X12_isWind_7 : kf_dq cX12_isWind 7 9 2 (.bipush 69) := ⟨by decide +kernel, rfl⟩
theorem d_X12_isWind_9 : kf_dq cX12_isWind 9 10 1 (.iaload) := ⟨by decide +kernel, rfl⟩
theorem d_X12_isWind_10 : kf_dq cX12_isWind 10 11 1 (.imul) := ⟨by decide +kernel, rfl⟩
theorem d_X12_isWind_11 : kf_dq cX12_isWind 11 13 2 (.bipush 100) := ⟨by decide +kernel, rfl⟩
theorem d_X12_isWind_13 : kf_dq cX12_isWind 13 16 3 (.invokevirtual 330) := ⟨by decide +kernel, rfl⟩
theorem d_X12_isWind_16 : kf_dq cX12_isWind 16 17 1 (.aload_n 0) := ⟨by decide +kernel, rfl⟩
theorem d_X12_isWind_17 : kf_dq cX12_isWind 17 20 3 (.getfield 73) := ⟨by decide +kernel, rfl⟩
theorem d_X12_isWind_20 : kf_dq cX12_isWind 20 21 1 (.aload_n 0) := ⟨by decide +kernel, rfl⟩
theorem d_X12_isWind_21 : kf_dq cX12_isWind 21 24 3 (.getfield 233) := ⟨by decide +kernel, rfl⟩
theorem d_X12_isWind_24 : kf_dq cX12_isWind 24 25 1 (.iaload) := ⟨by decide +kernel, rfl⟩
theorem d_X12_isWind_25 : kf_dj cX12_isWind 25 28 32 (.if_icmp .ge) := ⟨7, by decide +kernel, rfl, by decide⟩
theorem d_X12_isWind_28 : kf_dq cX12_isWind 28 29 1 (.iconst 1) := ⟨by decide +kernel, rfl⟩
theorem d_X12_isWind_29 : kf_dj cX12_isWind 29 32 33 .goto := ⟨4, by decide +kernel, rfl, by decide⟩
theorem d_X12_isWind_32 : kf_dq cX12_isWind 32 33 1 (.iconst 0) := ⟨by decide +kernel, rfl⟩
theorem d_X12_isWind_33 : kf_dq cX12_isWind 33 34 1 (.ireturn) := ⟨by decide +kernel, rfl⟩
def f_X12_isWind (v0 : Nat) (σ : kf_St) : Option (Int32 × kf_St) :=
  if kf_ix 69 (kf_ln (kf_rf v0 52)) = true then
  (f_X12_lotOf v0 (16 * (σ.1 (kf_rf v0 52) (Int32.toNatClampNeg 69))) 100 σ).bind fun q_2 =>
  if kf_ix (q_2.2.1 v0 18) (kf_ln (kf_rf v0 32)) = true then
  if (q_2.2.1 (kf_rf v0 32) (Int32.toNatClampNeg (q_2.2.1 v0 18))) ≤ q_2.1 then
    some (0, q_2.2)
  else
    some (1, q_2.2)
  else none
  else none
set_option maxRecDepth 100000 in
set_option maxHeartbeats 4000000 in
theorem c_X12_isWind {G : kf_G} (hty : kf_wt G) (v0 : Nat) (k_v0 : kf_kd G v0 = 13) (σ : kf_St) {q : (Int32 × kf_St)} (h : f_X12_isWind v0 σ = some q) : kf_Ct (3) yX12_isWind cX12_isWind 1 (some .boolean) G [.ref (kf_ad G v0)] σ (some (.int q.1)) q.2 := by
  refine kf_Ct.of hty.1 (lv := [(0, .ref (kf_ad G v0))]) (by decide +kernel) rfl (Nat.le_of_ble_eq_true rfl) (fun X E => ?_)
  unfold f_X12_isWind at h
  refine wa_aload_n 0 rfl E d_X12_isWind_0 ?_
  refine wa_bipush 16 bp_16 E d_X12_isWind_1 ?_
  refine wa_aload_n 0 rfl E d_X12_isWind_3 ?_
  refine wa_getR fl_X12_122 k_v0 rfl E d_X12_isWind_4 ?_
  refine wa_bipush 69 bp_69 E d_X12_isWind_7 ?_
  obtain ⟨g_1, h⟩ := kf_gd h
  refine wa_iald (kf_wtf hty 52 49 k_v0 (by decide) rfl) g_1 E d_X12_isWind_9 ?_
  refine wa_imul E d_X12_isWind_10 ?_
  refine wa_bipush 100 bp_100 E d_X12_isWind_11 ?_
  obtain ⟨q_2, hq_2, h⟩ := kf_bd h
  refine wa_callV (st2 := [.int q_2.1]) (c_X12_lotOf hty v0 (16 * (σ.1 (kf_rf v0 52) (Int32.toNatClampNeg 69))) 100 k_v0 σ hq_2) mv_X12_lotOf ml_X12_330 k_v0 rfl (Nat.le_of_ble_eq_true rfl) rfl (Nat.le_of_ble_eq_true rfl) E d_X12_isWind_13 rfl ?_
  refine wa_aload_n 0 rfl E d_X12_isWind_16 ?_
  refine wa_getR fl_X12_73 k_v0 rfl E d_X12_isWind_17 ?_
  refine wa_aload_n 0 rfl E d_X12_isWind_20 ?_
  refine wa_getI fl_X12_233 k_v0 rfl E d_X12_isWind_21 ?_
  obtain ⟨g_3, h⟩ := kf_gd h
  refine wa_iald (kf_wtf hty 32 49 k_v0 (by decide) rfl) g_3 E d_X12_isWind_24 ?_
  refine wa_icmp_ge E d_X12_isWind_25 (fun c_4 => ?_) (fun c_4 => ?_)
  · replace h := kf_ift c_4 h
    refine wa_iconst 0 ic_0 E d_X12_isWind_32 ?_
    cases h
    exact wa_zret kf_z0 E d_X12_isWind_33
  · replace h := kf_iff c_4 h
    refine wa_iconst 1 ic_1 E d_X12_isWind_28 ?_
    refine wa_goto E d_X12_isWind_29 ?_
    cases h
    exact wa_zret kf_z1 E d_X12_isWind_33
/-! X12_facePart -/
theorem d_X12_facePart_0 : kf_dq cX12_facePart 0 1 1 (.aload_n 0) := ⟨by decide +kernel, rfl⟩
theorem d_X12_facePart_1 : kf_dq cX12_facePart 1 4 3 (.getfield 55) := ⟨by decide +kernel, rfl⟩
theorem d_X12_facePart_4 : kf_dq cX12_facePart 4 6 2 (.bipush 20) := ⟨by decide +kernel, rfl⟩
theorem d_X12_facePart_6 : kf_dq cX12_facePart 6 7 1 (.aload_n 0) := ⟨by decide +kernel, rfl⟩
theorem d_X12_facePart_7 : kf_dq cX12_facePart 7 10 3 (.getfield 233) := ⟨by decide +kernel, rfl⟩
theorem d_X12_facePart_10 : kf_dq cX12_facePart 10 11 1 (.imul) := ⟨by decide +kernel, rfl⟩
theorem d_X12_facePart_11 : kf_dq cX12_facePart 11 12 1 (.iconst 4) := ⟨by decide +kernel, rfl⟩
theorem d_X12_facePart_12 : kf_dq cX12_facePart 12 13 1 (.iload_n 1) := ⟨by decide +kernel, rfl⟩
theorem d_X12_facePart_13 : kf_dq cX12_facePart 13 14 1 (.imul) := ⟨by decide +kernel, rfl⟩
theorem d_X12_facePart_14 : kf_dq cX12_facePart 14 15 1 (.iadd) := ⟨by decide +kernel, rfl⟩
theorem d_X12_facePart_15 : kf_dq cX12_facePart 15 16 1 (.iload_n 2) := ⟨by decide +kernel, rfl⟩
theorem d_X12_facePart_16 : kf_dq cX12_facePart 16 17 1 (.iadd) := ⟨by decide +kernel, rfl⟩
theorem d_X12_facePart_17 : kf_dq cX12_facePart 17 18 1 (.iaload) := ⟨by decide +kernel, rfl⟩
theorem d_X12_facePart_18 : kf_dq cX12_facePart 18 19 1 (.ireturn) := ⟨by decide +kernel, rfl⟩
def f_X12_facePart (v0 : Nat) (v1 : Int32) (v2 : Int32) (σ : kf_St) : Option (Int32 × kf_St) :=
  if kf_ix (((20 * (σ.1 v0 18)) + (4 * v1)) + v2) (kf_ln (kf_rf v0 26)) = true then
  some ((σ.1 (kf_rf v0 26) (Int32.toNatClampNeg (((20 * (σ.1 v0 18)) + (4 * v1)) + v2))), σ)
  else none
set_option maxRecDepth 100000 in
set_option maxHeartbeats 4000000 in
theorem c_X12_facePart {G : kf_G} (hty : kf_wt G) (v0 : Nat) (v1 : Int32) (v2 : Int32) (k_v0 : kf_kd G v0 = 13) (σ : kf_St) {q : (Int32 × kf_St)} (h : f_X12_facePart v0 v1 v2 σ = some q) : kf_Ct (1) yX12_facePart cX12_facePart 3 (some .int) G [.ref (kf_ad G v0), .int v1, .int v2] σ (some (.int q.1)) q.2 := by
  refine kf_Ct.of hty.1 (lv := [(0, .ref (kf_ad G v0)), (1, .int v1), (2, .int v2)]) (by decide +kernel) rfl (Nat.le_of_ble_eq_true rfl) (fun X E => ?_)
  unfold f_X12_facePart at h
  refine wa_aload_n 0 rfl E d_X12_facePart_0 ?_
  refine wa_getR fl_X12_55 k_v0 rfl E d_X12_facePart_1 ?_
  refine wa_bipush 20 bp_20 E d_X12_facePart_4 ?_
  refine wa_aload_n 0 rfl E d_X12_facePart_6 ?_
  refine wa_getI fl_X12_233 k_v0 rfl E d_X12_facePart_7 ?_
  refine wa_imul E d_X12_facePart_10 ?_
  refine wa_iconst 4 ic_4 E d_X12_facePart_11 ?_
  refine wa_iload_n 1 rfl E d_X12_facePart_12 ?_
  refine wa_imul E d_X12_facePart_13 ?_
  refine wa_iadd E d_X12_facePart_14 ?_
  refine wa_iload_n 2 rfl E d_X12_facePart_15 ?_
  refine wa_iadd E d_X12_facePart_16 ?_
  obtain ⟨g_1, h⟩ := kf_gd h
  refine wa_iald (kf_wtf hty 26 49 k_v0 (by decide) rfl) g_1 E d_X12_facePart_17 ?_
  cases h
  exact wa_iret E d_X12_facePart_18
/-! X12_firstPart -/
theorem d_X12_firstPart_0 : kf_dq cX12_firstPart 0 1 1 (.aload_n 0) := ⟨by decide +kernel, rfl⟩
theorem d_X12_firstPart_1 : kf_dq cX12_firstPart 1 4 3 (.getfield 49) := ⟨by decide +kernel, rfl⟩
theorem d_X12_firstPart_4 : kf_dq cX12_firstPart 4 6 2 (.bipush 24) := ⟨by decide +kernel, rfl⟩
theorem d_X12_firstPart_6 : kf_dq cX12_firstPart 6 7 1 (.aload_n 0) := ⟨by decide +kernel, rfl⟩
theorem d_X12_firstPart_7 : kf_dq cX12_firstPart 7 10 3 (.getfield 233) := ⟨by decide +kernel, rfl⟩
theorem d_X12_firstPart_10 : kf_dq cX12_firstPart 10 11 1 (.imul) := ⟨by decide +kernel, rfl⟩
theorem d_X12_firstPart_11 : kf_dq cX12_firstPart 11 12 1 (.iconst 4) := ⟨by decide +kernel, rfl⟩
theorem d_X12_firstPart_12 : kf_dq cX12_firstPart 12 13 1 (.iload_n 1) := ⟨by decide +kernel, rfl⟩
theorem d_X12_firstPart_13 : kf_dq cX12_firstPart 13 14 1 (.imul) := ⟨by decide +kernel, rfl⟩
theorem d_X12_firstPart_14 : kf_dq cX12_firstPart 14 15 1 (.iadd) := ⟨by decide +kernel, rfl⟩
theorem d_X12_firstPart_15 : kf_dq cX12_firstPart 15 16 1 (.iload_n 2) := ⟨by decide +kernel, rfl⟩
theorem d_X12_firstPart_16 : kf_dq cX12_firstPart 16 17 1 (.iadd) := ⟨by decide +kernel, rfl⟩
theorem d_X12_firstPart_17 : kf_dq cX12_firstPart 17 18 1 (.iaload) := ⟨by decide +kernel, rfl⟩
theorem d_X12_firstPart_18 : kf_dq cX12_firstPart 18 19 1 (.ireturn) := ⟨by decide +kernel, rfl⟩
def f_X12_firstPart (v0 : Nat) (v1 : Int32) (v2 : Int32) (σ : kf_St) : Option (Int32 × kf_St) :=
  if kf_ix (((24 * (σ.1 v0 18)) + (4 * v1)) + v2) (kf_ln (kf_rf v0 24)) = true then
  some ((σ.1 (kf_rf v0 24) (Int32.toNatClampNeg (((24 * (σ.1 v0 18)) + (4 * v1)) + v2))), σ)
  else none
set_option maxRecDepth 100000 in
set_option maxHeartbeats 4000000 in
theorem c_X12_firstPart {G : kf_G} (hty : kf_wt G) (v0 : Nat) (v1 : Int32) (v2 : Int32) (k_v0 : kf_kd G v0 = 13) (σ : kf_St) {q : (Int32 × kf_St)} (h : f_X12_firstPart v0 v1 v2 σ = some q) : kf_Ct (1) yX12_firstPart cX12_firstPart 3 (some .int) G [.ref (kf_ad G v0), .int v1, .int v2] σ (some (.int q.1)) q.2 := by
  refine kf_Ct.of hty.1 (lv := [(0, .ref (kf_ad G v0)), (1, .int v1), (2, .int v2)]) (by decide +kernel) rfl (Nat.le_of_ble_eq_true rfl) (fun X E => ?_)
  unfold f_X12_firstPart at h
  refine wa_aload_n 0 rfl E d_X12_firstPart_0 ?_
  refine wa_getR fl_X12_49 k_v0 rfl E d_X12_firstPart_1 ?_
  refine wa_bipush 24 bp_24 E d_X12_firstPart_4 ?_
  refine wa_aload_n 0 rfl E d_X12_firstPart_6 ?_
  refine wa_getI fl_X12_233 k_v0 rfl E d_X12_firstPart_7 ?_
  refine wa_imul E d_X12_firstPart_10 ?_
  refine wa_iconst 4 ic_4 E d_X12_firstPart_11 ?_
  refine wa_iload_n 1 rfl E d_X12_firstPart_12 ?_
  refine wa_imul E d_X12_firstPart_13 ?_
  refine wa_iadd E d_X12_firstPart_14 ?_
  refine wa_iload_n 2 rfl E d_X12_firstPart_15 ?_
  refine wa_iadd E d_X12_firstPart_16 ?_
  obtain ⟨g_1, h⟩ := kf_gd h
  refine wa_iald (kf_wtf hty 24 49 k_v0 (by decide) rfl) g_1 E d_X12_firstPart_17 ?_
  cases h
  exact wa_iret E d_X12_firstPart_18
/-! X12_unlikeTo -/
theorem d_X12_unlikeTo_0 : kf_dq cX12_unlikeTo 0 1 1 (.iconst 0) := ⟨by decide +kernel, rfl⟩
theorem d_X12_unlikeTo_1 : kf_dq cX12_unlikeTo 1 2 1 (.istore_n 3) := ⟨by decide +kernel, rfl⟩
theorem d_X12_unlikeTo_2 : kf_dq cX12_unlikeTo 2 3 1 (.iconst 0) := ⟨by decide +kernel, rfl⟩
theorem d_X12_unlikeTo_3 : kf_dq cX12_unlikeTo 3 5 2 (.istore 4) := ⟨by decide +kernel, rfl⟩
theorem d_X12_unlikeTo_5 : kf_dq cX12_unlikeTo 5 7 2 (.iload 4) := ⟨by decide +kernel, rfl⟩
theorem d_X12_unlikeTo_7 : kf_dq cX12_unlikeTo 7 8 1 (.iconst 4) := ⟨by decide +kernel, rfl⟩
theorem d_X12_unlikeTo_8 : kf_dj cX12_unlikeTo 8 11 41 (.if_icmp .ge) := ⟨33, by decide +kernel, rfl, by decide⟩
theorem d_X12_unlikeTo_11 : kf_dq cX12_unlikeTo 11 12 1 (.iload_n 3) := ⟨by decide +kernel, rfl⟩
theorem d_X12_unlikeTo_12 : kf_dq cX12_unlikeTo 12 13 1 (.aload_n 0) := ⟨by decide +kernel, rfl⟩
theorem d_X12_unlikeTo_13 : kf_dq cX12_unlikeTo 13 16 3 (.getfield 122) := ⟨by decide +kernel, rfl⟩
theorem d_X12_unlikeTo_16 : kf_dq cX12_unlikeTo 16 17 1 (.iconst 4) := ⟨by decide +kernel, rfl⟩
theorem d_X12_unlikeTo_17 : kf_dq cX12_unlikeTo 17 18 1 (.iload_n 1) := ⟨by decide +kernel, rfl⟩
theorem d_X12_unlikeTo_18 : kf_dq cX12_unlikeTo 18 19 1 (.imul) := ⟨by decide +kernel, rfl⟩
theorem d_X12_unlikeTo_19 : kf_dq cX12_unlikeTo 19 21 2 (.iload 4) := ⟨by decide +kernel, rfl⟩
theorem d_X12_unlikeTo_21 : kf_dq cX12_unlikeTo 21 22 1 (.iadd) := ⟨by decide +kernel, rfl⟩
theorem d_X12_unlikeTo_22 : kf_dq cX12_unlikeTo 22 23 1 (.iaload) := ⟨by decide +kernel, rfl⟩
theorem d_X12_unlikeTo_23 : kf_dq cX12_unlikeTo 23 24 1 (.aload_n 0) := ⟨by decide +kernel, rfl⟩
theorem d_X12_unlikeTo_24 : kf_dq cX12_unlikeTo 24 25 1 (.iload_n 2) := ⟨by decide +kernel, rfl⟩
theorem d_X12_unlikeTo_25 : kf_dq cX12_unlikeTo 25 27 2 (.iload 4) := ⟨by decide +kernel, rfl⟩
theorem d_X12_unlikeTo_27 : kf_dq cX12_unlikeTo 27 30 3 (.invokevirtual 333) := ⟨by decide +kernel, rfl⟩
theorem d_X12_unlikeTo_30 : kf_dq cX12_unlikeTo 30 33 3 (.invokestatic 336) := ⟨by decide +kernel, rfl⟩
theorem d_X12_unlikeTo_33 : kf_dq cX12_unlikeTo 33 34 1 (.iadd) := ⟨by decide +kernel, rfl⟩
theorem d_X12_unlikeTo_34 : kf_dq cX12_unlikeTo 34 35 1 (.istore_n 3) := ⟨by decide +kernel, rfl⟩
theorem d_X12_unlikeTo_35 : kf_dq cX12_unlikeTo 35 38 3 (.iinc 4 1) := ⟨by decide +kernel, rfl⟩
theorem d_X12_unlikeTo_38 : kf_dj cX12_unlikeTo 38 41 5 .goto := ⟨(-33), by decide +kernel, rfl, by decide⟩
theorem d_X12_unlikeTo_41 : kf_dq cX12_unlikeTo 41 42 1 (.iload_n 3) := ⟨by decide +kernel, rfl⟩
theorem d_X12_unlikeTo_42 : kf_dq cX12_unlikeTo 42 43 1 (.ireturn) := ⟨by decide +kernel, rfl⟩
def f_X12_unlikeTo_5_s (rec5 : Nat → Int32 → Int32 → Int32 → Int32 → kf_St → Option (Int32 × kf_St)) (v0 : Nat) (v1 : Int32) (v2 : Int32) (v3 : Int32) (v4 : Int32) (σ : kf_St) : Option (Int32 × kf_St) :=
  if 4 ≤ v4 then
    some (v3, σ)
  else
    if kf_ix ((4 * v1) + v4) (kf_ln (kf_rf v0 52)) = true then
    (f_X12_facePart v0 v2 v4 σ).bind fun q_3 =>
    (f_X12_off (σ.1 (kf_rf v0 52) (Int32.toNatClampNeg ((4 * v1) + v4))) q_3.1 q_3.2).bind fun q_4 =>
    kf_lt ((v3 + q_4.1)) fun v3_5 =>
    kf_lt (v4 + 1) fun v4_6 =>
    rec5 v0 v1 v2 v3_5 v4_6 q_4.2
    else none
def f_X12_unlikeTo_5 : Nat → Nat → Int32 → Int32 → Int32 → Int32 → kf_St → Option (Int32 × kf_St)
  | 0, _, _, _, _, _, _ => none
  | n + 1, v0, v1, v2, v3, v4, σ => f_X12_unlikeTo_5_s (f_X12_unlikeTo_5 n) v0 v1 v2 v3 v4 σ
set_option maxRecDepth 100000 in
set_option maxHeartbeats 4000000 in
theorem b_X12_unlikeTo_5_s {X : kf_X} {G : kf_G} (rec5 : Nat → Int32 → Int32 → Int32 → Int32 → kf_St → Option (Int32 × kf_St)) {q : (Int32 × kf_St)} (E : kf_ok X G cX12_unlikeTo RX12 5 (some .int) (2)) (hty : kf_wt G) (hrec5 : ∀ (v0 : Nat) (v1 : Int32) (v2 : Int32) (v3 : Int32) (v4 : Int32) (k_v0 : kf_kd G v0 = 13) (σ : kf_St), rec5 v0 v1 v2 v3 v4 σ = some q → kf_WA X G 5 (kf_Q X G (some (.int q.1)) q.2) 5 [(0, .ref (kf_ad G v0)), (1, .int v1), (2, .int v2), (3, .int v3), (4, .int v4)] [] σ) (v0 : Nat) (v1 : Int32) (v2 : Int32) (v3 : Int32) (v4 : Int32) (k_v0 : kf_kd G v0 = 13) (σ : kf_St) (h : f_X12_unlikeTo_5_s rec5 v0 v1 v2 v3 v4 σ = some q) : kf_WA X G 5 (kf_Q X G (some (.int q.1)) q.2) 5 [(0, .ref (kf_ad G v0)), (1, .int v1), (2, .int v2), (3, .int v3), (4, .int v4)] [] σ := by
  unfold f_X12_unlikeTo_5_s at h
  refine wa_iload 4 rfl E d_X12_unlikeTo_5 ?_
  refine wa_iconst 4 ic_4 E d_X12_unlikeTo_7 ?_
  refine wa_icmp_ge E d_X12_unlikeTo_8 (fun c_1 => ?_) (fun c_1 => ?_)
  · replace h := kf_ift c_1 h
    refine wa_iload_n 3 rfl E d_X12_unlikeTo_41 ?_
    cases h
    exact wa_iret E d_X12_unlikeTo_42
  · replace h := kf_iff c_1 h
    refine wa_iload_n 3 rfl E d_X12_unlikeTo_11 ?_
    refine wa_aload_n 0 rfl E d_X12_unlikeTo_12 ?_
    refine wa_getR fl_X12_122 k_v0 rfl E d_X12_unlikeTo_13 ?_
    refine wa_iconst 4 ic_4 E d_X12_unlikeTo_16 ?_
    refine wa_iload_n 1 rfl E d_X12_unlikeTo_17 ?_
    refine wa_imul E d_X12_unlikeTo_18 ?_
    refine wa_iload 4 rfl E d_X12_unlikeTo_19 ?_
    refine wa_iadd E d_X12_unlikeTo_21 ?_
    obtain ⟨g_2, h⟩ := kf_gd h
    refine wa_iald (kf_wtf hty 52 49 k_v0 (by decide) rfl) g_2 E d_X12_unlikeTo_22 ?_
    refine wa_aload_n 0 rfl E d_X12_unlikeTo_23 ?_
    refine wa_iload_n 2 rfl E d_X12_unlikeTo_24 ?_
    refine wa_iload 4 rfl E d_X12_unlikeTo_25 ?_
    obtain ⟨q_3, hq_3, h⟩ := kf_bd h
    refine wa_callV (st2 := [.int q_3.1, .int (σ.1 (kf_rf v0 52) (Int32.toNatClampNeg ((4 * v1) + v4))), .int v3]) (c_X12_facePart hty v0 v2 v4 k_v0 σ hq_3) mv_X12_facePart ml_X12_333 k_v0 rfl (Nat.le_of_ble_eq_true rfl) rfl (Nat.le_of_ble_eq_true rfl) E d_X12_unlikeTo_27 rfl ?_
    obtain ⟨q_4, hq_4, h⟩ := kf_bd h
    refine wa_callS (st2 := [.int q_4.1, .int v3]) (c_X12_off hty (σ.1 (kf_rf v0 52) (Int32.toNatClampNeg ((4 * v1) + v4))) q_3.1 q_3.2 hq_4) mt_X12_off ml_X12_336 rfl (Nat.le_of_ble_eq_true rfl) rfl (Nat.le_of_ble_eq_true rfl) E d_X12_unlikeTo_30 rfl ?_
    refine wa_iadd E d_X12_unlikeTo_33 ?_
    obtain ⟨v3_5, ev3_5, h⟩ := kf_lte h
    refine wa_topi ev3_5 ?_
    refine wa_istore_n (lv' := [(3, .int v3_5), (0, .ref (kf_ad G v0)), (1, .int v1), (2, .int v2), (4, .int v4)]) rfl (by decide) rfl E d_X12_unlikeTo_34 ?_
    obtain ⟨v4_6, ev4_6, h⟩ := kf_lte h
    refine wa_iinc (lv' := [(4, .int v4_6), (3, .int v3_5), (0, .ref (kf_ad G v0)), (1, .int v1), (2, .int v2)]) v4_6 4 rfl (kf_inc ic_1 ev4_6) (by decide) rfl E d_X12_unlikeTo_35 ?_
    refine wa_goto E d_X12_unlikeTo_38 ?_
    refine wa_sub [2, 3, 4, 1, 0] rfl ?_
    exact hrec5 v0 v1 v2 v3_5 v4_6 k_v0 q_4.2 h
theorem b_X12_unlikeTo_5 {X : kf_X} {G : kf_G} {q : (Int32 × kf_St)} (E : kf_ok X G cX12_unlikeTo RX12 5 (some .int) (2)) (hty : kf_wt G) : ∀ (N : Nat) (v0 : Nat) (v1 : Int32) (v2 : Int32) (v3 : Int32) (v4 : Int32) (k_v0 : kf_kd G v0 = 13) (σ : kf_St) (_ : f_X12_unlikeTo_5 N v0 v1 v2 v3 v4 σ = some q), kf_WA X G 5 (kf_Q X G (some (.int q.1)) q.2) 5 [(0, .ref (kf_ad G v0)), (1, .int v1), (2, .int v2), (3, .int v3), (4, .int v4)] [] σ
  | 0, _, _, _, _, _, _, _, h => by cases h
  | N + 1, v0, v1, v2, v3, v4, k_v0, σ, h => b_X12_unlikeTo_5_s _ E hty (b_X12_unlikeTo_5 E hty N) v0 v1 v2 v3 v4 k_v0 σ h
def f_X12_unlikeTo (v0 : Nat) (v1 : Int32) (v2 : Int32) (σ : kf_St) : Option (Int32 × kf_St) :=
  f_X12_unlikeTo_5 kf_F v0 v1 v2 0 0 σ
set_option maxRecDepth 100000 in
set_option maxHeartbeats 4000000 in
theorem c_X12_unlikeTo {G : kf_G} (hty : kf_wt G) (v0 : Nat) (v1 : Int32) (v2 : Int32) (k_v0 : kf_kd G v0 = 13) (σ : kf_St) {q : (Int32 × kf_St)} (h : f_X12_unlikeTo v0 v1 v2 σ = some q) : kf_Ct (2) yX12_unlikeTo cX12_unlikeTo 5 (some .int) G [.ref (kf_ad G v0), .int v1, .int v2] σ (some (.int q.1)) q.2 := by
  refine kf_Ct.of hty.1 (lv := [(0, .ref (kf_ad G v0)), (1, .int v1), (2, .int v2)]) (by decide +kernel) rfl (Nat.le_of_ble_eq_true rfl) (fun X E => ?_)
  unfold f_X12_unlikeTo at h
  refine wa_iconst 0 ic_0 E d_X12_unlikeTo_0 ?_
  refine wa_istore_n (lv' := [(3, .int 0), (0, .ref (kf_ad G v0)), (1, .int v1), (2, .int v2)]) rfl (by decide) rfl E d_X12_unlikeTo_1 ?_
  refine wa_iconst 0 ic_0 E d_X12_unlikeTo_2 ?_
  refine wa_istore (lv' := [(4, .int 0), (3, .int 0), (0, .ref (kf_ad G v0)), (1, .int v1), (2, .int v2)]) (by decide) rfl E d_X12_unlikeTo_3 ?_
  refine wa_sub [2, 3, 4, 1, 0] rfl ?_
  exact b_X12_unlikeTo_5 E hty kf_F v0 v1 v2 0 0 k_v0 σ h
/-! X12_unlikeFirst -/
theorem d_X12_unlikeFirst_0 : kf_dq cX12_unlikeFirst 0 1 1 (.iconst 0) := ⟨by decide +kernel, rfl⟩
theorem d_X12_unlikeFirst_1 : kf_dq cX12_unlikeFirst 1 2 1 (.istore_n 2) := ⟨by decide +kernel, rfl⟩
theorem d_X12_unlikeFirst_2 : kf_dq cX12_unlikeFirst 2 3 1 (.iconst 0) := ⟨by decide +kernel, rfl⟩
theorem d_X12_unlikeFirst_3 : kf_dq cX12_unlikeFirst 3 4 1 (.istore_n 3) := ⟨by decide +kernel, rfl⟩
theorem d_X12_unlikeFirst_4 : kf_dq cX12_unlikeFirst 4 5 1 (.iload_n 3) := ⟨by decide +kernel, rfl⟩
theorem d_X12_unlikeFirst_5 : kf_dq cX12_unlikeFirst 5 6 1 (.iconst 4) := ⟨by decide +kernel, rfl⟩
theorem d_X12_unlikeFirst_6 : kf_dj cX12_unlikeFirst 6 9 37 (.if_icmp .ge) := ⟨31, by decide +kernel, rfl, by decide⟩
theorem d_X12_unlikeFirst_9 : kf_dq cX12_unlikeFirst 9 10 1 (.iload_n 2) := ⟨by decide +kernel, rfl⟩
theorem d_X12_unlikeFirst_10 : kf_dq cX12_unlikeFirst 10 11 1 (.aload_n 0) := ⟨by decide +kernel, rfl⟩
theorem d_X12_unlikeFirst_11 : kf_dq cX12_unlikeFirst 11 14 3 (.getfield 122) := ⟨by decide +kernel, rfl⟩
theorem d_X12_unlikeFirst_14 : kf_dq cX12_unlikeFirst 14 15 1 (.iconst 4) := ⟨by decide +kernel, rfl⟩
theorem d_X12_unlikeFirst_15 : kf_dq cX12_unlikeFirst 15 16 1 (.iload_n 1) := ⟨by decide +kernel, rfl⟩
theorem d_X12_unlikeFirst_16 : kf_dq cX12_unlikeFirst 16 17 1 (.imul) := ⟨by decide +kernel, rfl⟩
theorem d_X12_unlikeFirst_17 : kf_dq cX12_unlikeFirst 17 18 1 (.iload_n 3) := ⟨by decide +kernel, rfl⟩
theorem d_X12_unlikeFirst_18 : kf_dq cX12_unlikeFirst 18 19 1 (.iadd) := ⟨by decide +kernel, rfl⟩
theorem d_X12_unlikeFirst_19 : kf_dq cX12_unlikeFirst 19 20 1 (.iaload) := ⟨by decide +kernel, rfl⟩
theorem d_X12_unlikeFirst_20 : kf_dq cX12_unlikeFirst 20 21 1 (.aload_n 0) := ⟨by decide +kernel, rfl⟩
theorem d_X12_unlikeFirst_21 : kf_dq cX12_unlikeFirst 21 22 1 (.iload_n 1) := ⟨by decide +kernel, rfl⟩
theorem d_X12_unlikeFirst_22 : kf_dq cX12_unlikeFirst 22 23 1 (.iload_n 3) := ⟨by decide +kernel, rfl⟩
theorem d_X12_unlikeFirst_23 : kf_dq cX12_unlikeFirst 23 26 3 (.invokevirtual 339) := ⟨by decide +kernel, rfl⟩
theorem d_X12_unlikeFirst_26 : kf_dq cX12_unlikeFirst 26 29 3 (.invokestatic 336) := ⟨by decide +kernel, rfl⟩
theorem d_X12_unlikeFirst_29 : kf_dq cX12_unlikeFirst 29 30 1 (.iadd) := ⟨by decide +kernel, rfl⟩
theorem d_X12_unlikeFirst_30 : kf_dq cX12_unlikeFirst 30 31 1 (.istore_n 2) := ⟨by decide +kernel, rfl⟩
theorem d_X12_unlikeFirst_31 : kf_dq cX12_unlikeFirst 31 34 3 (.iinc 3 1) := ⟨by decide +kernel, rfl⟩
theorem d_X12_unlikeFirst_34 : kf_dj cX12_unlikeFirst 34 37 4 .goto := ⟨(-30), by decide +kernel, rfl, by decide⟩
theorem d_X12_unlikeFirst_37 : kf_dq cX12_unlikeFirst 37 38 1 (.iload_n 2) := ⟨by decide +kernel, rfl⟩
theorem d_X12_unlikeFirst_38 : kf_dq cX12_unlikeFirst 38 39 1 (.ireturn) := ⟨by decide +kernel, rfl⟩
def f_X12_unlikeFirst_4_s (rec4 : Nat → Int32 → Int32 → Int32 → kf_St → Option (Int32 × kf_St)) (v0 : Nat) (v1 : Int32) (v2 : Int32) (v3 : Int32) (σ : kf_St) : Option (Int32 × kf_St) :=
  if 4 ≤ v3 then
    some (v2, σ)
  else
    if kf_ix ((4 * v1) + v3) (kf_ln (kf_rf v0 52)) = true then
    (f_X12_firstPart v0 v1 v3 σ).bind fun q_3 =>
    (f_X12_off (σ.1 (kf_rf v0 52) (Int32.toNatClampNeg ((4 * v1) + v3))) q_3.1 q_3.2).bind fun q_4 =>
    kf_lt ((v2 + q_4.1)) fun v2_5 =>
    kf_lt (v3 + 1) fun v3_6 =>
    rec4 v0 v1 v2_5 v3_6 q_4.2
    else none
def f_X12_unlikeFirst_4 : Nat → Nat → Int32 → Int32 → Int32 → kf_St → Option (Int32 × kf_St)
  | 0, _, _, _, _, _ => none
  | n + 1, v0, v1, v2, v3, σ => f_X12_unlikeFirst_4_s (f_X12_unlikeFirst_4 n) v0 v1 v2 v3 σ
set_option maxRecDepth 100000 in
set_option maxHeartbeats 4000000 in
theorem b_X12_unlikeFirst_4_s {X : kf_X} {G : kf_G} (rec4 : Nat → Int32 → Int32 → Int32 → kf_St → Option (Int32 × kf_St)) {q : (Int32 × kf_St)} (E : kf_ok X G cX12_unlikeFirst RX12 4 (some .int) (2)) (hty : kf_wt G) (hrec4 : ∀ (v0 : Nat) (v1 : Int32) (v2 : Int32) (v3 : Int32) (k_v0 : kf_kd G v0 = 13) (σ : kf_St), rec4 v0 v1 v2 v3 σ = some q → kf_WA X G 4 (kf_Q X G (some (.int q.1)) q.2) 4 [(0, .ref (kf_ad G v0)), (1, .int v1), (2, .int v2), (3, .int v3)] [] σ) (v0 : Nat) (v1 : Int32) (v2 : Int32) (v3 : Int32) (k_v0 : kf_kd G v0 = 13) (σ : kf_St) (h : f_X12_unlikeFirst_4_s rec4 v0 v1 v2 v3 σ = some q) : kf_WA X G 4 (kf_Q X G (some (.int q.1)) q.2) 4 [(0, .ref (kf_ad G v0)), (1, .int v1), (2, .int v2), (3, .int v3)] [] σ := by
  unfold f_X12_unlikeFirst_4_s at h
  refine wa_iload_n 3 rfl E d_X12_unlikeFirst_4 ?_
  refine wa_iconst 4 ic_4 E d_X12_unlikeFirst_5 ?_
  refine wa_icmp_ge E d_X12_unlikeFirst_6 (fun c_1 => ?_) (fun c_1 => ?_)
  · replace h := kf_ift c_1 h
    refine wa_iload_n 2 rfl E d_X12_unlikeFirst_37 ?_
    cases h
    exact wa_iret E d_X12_unlikeFirst_38
  · replace h := kf_iff c_1 h
    refine wa_iload_n 2 rfl E d_X12_unlikeFirst_9 ?_
    refine wa_aload_n 0 rfl E d_X12_unlikeFirst_10 ?_
    refine wa_getR fl_X12_122 k_v0 rfl E d_X12_unlikeFirst_11 ?_
    refine wa_iconst 4 ic_4 E d_X12_unlikeFirst_14 ?_
    refine wa_iload_n 1 rfl E d_X12_unlikeFirst_15 ?_
    refine wa_imul E d_X12_unlikeFirst_16 ?_
    refine wa_iload_n 3 rfl E d_X12_unlikeFirst_17 ?_
    refine wa_iadd E d_X12_unlikeFirst_18 ?_
    obtain ⟨g_2, h⟩ := kf_gd h
    refine wa_iald (kf_wtf hty 52 49 k_v0 (by decide) rfl) g_2 E d_X12_unlikeFirst_19 ?_
    refine wa_aload_n 0 rfl E d_X12_unlikeFirst_20 ?_
    refine wa_iload_n 1 rfl E d_X12_unlikeFirst_21 ?_
    refine wa_iload_n 3 rfl E d_X12_unlikeFirst_22 ?_
    obtain ⟨q_3, hq_3, h⟩ := kf_bd h
    refine wa_callV (st2 := [.int q_3.1, .int (σ.1 (kf_rf v0 52) (Int32.toNatClampNeg ((4 * v1) + v3))), .int v2]) (c_X12_firstPart hty v0 v1 v3 k_v0 σ hq_3) mv_X12_firstPart ml_X12_339 k_v0 rfl (Nat.le_of_ble_eq_true rfl) rfl (Nat.le_of_ble_eq_true rfl) E d_X12_unlikeFirst_23 rfl ?_
    obtain ⟨q_4, hq_4, h⟩ := kf_bd h
    refine wa_callS (st2 := [.int q_4.1, .int v2]) (c_X12_off hty (σ.1 (kf_rf v0 52) (Int32.toNatClampNeg ((4 * v1) + v3))) q_3.1 q_3.2 hq_4) mt_X12_off ml_X12_336 rfl (Nat.le_of_ble_eq_true rfl) rfl (Nat.le_of_ble_eq_true rfl) E d_X12_unlikeFirst_26 rfl ?_
    refine wa_iadd E d_X12_unlikeFirst_29 ?_
    obtain ⟨v2_5, ev2_5, h⟩ := kf_lte h
    refine wa_topi ev2_5 ?_
    refine wa_istore_n (lv' := [(2, .int v2_5), (0, .ref (kf_ad G v0)), (1, .int v1), (3, .int v3)]) rfl (by decide) rfl E d_X12_unlikeFirst_30 ?_
    obtain ⟨v3_6, ev3_6, h⟩ := kf_lte h
    refine wa_iinc (lv' := [(3, .int v3_6), (2, .int v2_5), (0, .ref (kf_ad G v0)), (1, .int v1)]) v3_6 3 rfl (kf_inc ic_1 ev3_6) (by decide) rfl E d_X12_unlikeFirst_31 ?_
    refine wa_goto E d_X12_unlikeFirst_34 ?_
    refine wa_sub [2, 3, 1, 0] rfl ?_
    exact hrec4 v0 v1 v2_5 v3_6 k_v0 q_4.2 h
theorem b_X12_unlikeFirst_4 {X : kf_X} {G : kf_G} {q : (Int32 × kf_St)} (E : kf_ok X G cX12_unlikeFirst RX12 4 (some .int) (2)) (hty : kf_wt G) : ∀ (N : Nat) (v0 : Nat) (v1 : Int32) (v2 : Int32) (v3 : Int32) (k_v0 : kf_kd G v0 = 13) (σ : kf_St) (_ : f_X12_unlikeFirst_4 N v0 v1 v2 v3 σ = some q), kf_WA X G 4 (kf_Q X G (some (.int q.1)) q.2) 4 [(0, .ref (kf_ad G v0)), (1, .int v1), (2, .int v2), (3, .int v3)] [] σ
  | 0, _, _, _, _, _, _, h => by cases h
  | N + 1, v0, v1, v2, v3, k_v0, σ, h => b_X12_unlikeFirst_4_s _ E hty (b_X12_unlikeFirst_4 E hty N) v0 v1 v2 v3 k_v0 σ h
def f_X12_unlikeFirst (v0 : Nat) (v1 : Int32) (σ : kf_St) : Option (Int32 × kf_St) :=
  f_X12_unlikeFirst_4 kf_F v0 v1 0 0 σ
set_option maxRecDepth 100000 in
set_option maxHeartbeats 4000000 in
theorem c_X12_unlikeFirst {G : kf_G} (hty : kf_wt G) (v0 : Nat) (v1 : Int32) (k_v0 : kf_kd G v0 = 13) (σ : kf_St) {q : (Int32 × kf_St)} (h : f_X12_unlikeFirst v0 v1 σ = some q) : kf_Ct (2) yX12_unlikeFirst cX12_unlikeFirst 4 (some .int) G [.ref (kf_ad G v0), .int v1] σ (some (.int q.1)) q.2 := by
  refine kf_Ct.of hty.1 (lv := [(0, .ref (kf_ad G v0)), (1, .int v1)]) (by decide +kernel) rfl (Nat.le_of_ble_eq_true rfl) (fun X E => ?_)
  unfold f_X12_unlikeFirst at h
  refine wa_iconst 0 ic_0 E d_X12_unlikeFirst_0 ?_
  refine wa_istore_n (lv' := [(2, .int 0), (0, .ref (kf_ad G v0)), (1, .int v1)]) rfl (by decide) rfl E d_X12_unlikeFirst_1 ?_
  refine wa_iconst 0 ic_0 E d_X12_unlikeFirst_2 ?_
  refine wa_istore_n (lv' := [(3, .int 0), (2, .int 0), (0, .ref (kf_ad G v0)), (1, .int v1)]) rfl (by decide) rfl E d_X12_unlikeFirst_3 ?_
  refine wa_sub [2, 3, 1, 0] rfl ?_
  exact b_X12_unlikeFirst_4 E hty kf_F v0 v1 0 0 k_v0 σ h
/-! X12_knownBy -/
theorem d_X12_knownBy_0 : kf_dq cX12_knownBy 0 2 2 (.bipush (-2)) := ⟨by decide +kernel, rfl⟩
theorem d_X12_knownBy_2 : kf_dq cX12_knownBy 2 3 1 (.istore_n 2) := ⟨by decide +kernel, rfl⟩
theorem d_X12_knownBy_3 : kf_dq cX12_knownBy 3 4 1 (.iconst 0) := ⟨by decide +kernel, rfl⟩
theorem d_X12_knownBy_4 : kf_dq cX12_knownBy 4 5 1 (.istore_n 3) := ⟨by decide +kernel, rfl⟩
theorem d_X12_knownBy_5 : kf_dq cX12_knownBy 5 6 1 (.iconst 0) := ⟨by decide +kernel, rfl⟩
theorem d_X12_knownBy_6 : kf_dq cX12_knownBy 6 8 2 (.istore 4) := ⟨by decide +kernel, rfl⟩
theorem d_X12_knownBy_8 : kf_dq cX12_knownBy 8 10 2 (.iload 4) := ⟨by decide +kernel, rfl⟩
theorem d_X12_knownBy_10 : kf_dq cX12_knownBy 10 11 1 (.aload_n 0) := ⟨by decide +kernel, rfl⟩
theorem d_X12_knownBy_11 : kf_dq cX12_knownBy 11 14 3 (.getfield 52) := ⟨by decide +kernel, rfl⟩
theorem d_X12_knownBy_14 : kf_dq cX12_knownBy 14 15 1 (.aload_n 0) := ⟨by decide +kernel, rfl⟩
theorem d_X12_knownBy_15 : kf_dq cX12_knownBy 15 18 3 (.getfield 233) := ⟨by decide +kernel, rfl⟩
theorem d_X12_knownBy_18 : kf_dq cX12_knownBy 18 19 1 (.iaload) := ⟨by decide +kernel, rfl⟩
theorem d_X12_knownBy_19 : kf_dj cX12_knownBy 19 22 70 (.if_icmp .ge) := ⟨51, by decide +kernel, rfl, by decide⟩
theorem d_X12_knownBy_22 : kf_dq cX12_knownBy 22 23 1 (.aload_n 0) := ⟨by decide +kernel, rfl⟩
theorem d_X12_knownBy_23 : kf_dq cX12_knownBy 23 24 1 (.iload_n 1) := ⟨by decide +kernel, rfl⟩
theorem d_X12_knownBy_24 : kf_dq cX12_knownBy 24 26 2 (.iload 4) := ⟨by decide +kernel, rfl⟩
theorem d_X12_knownBy_26 : kf_dq cX12_knownBy 26 29 3 (.invokevirtual 342) := ⟨by decide +kernel, rfl⟩
theorem d_X12_knownBy_29 : kf_dq cX12_knownBy 29 31 2 (.istore 5) := ⟨by decide +kernel, rfl⟩
theorem d_X12_knownBy_31 : kf_dq cX12_knownBy 31 33 2 (.iload 5) := ⟨by decide +kernel, rfl⟩
theorem d_X12_knownBy_33 : kf_dq cX12_knownBy 33 34 1 (.aload_n 0) := ⟨by decide +kernel, rfl⟩
theorem d_X12_knownBy_34 : kf_dq cX12_knownBy 34 37 3 (.getfield 76) := ⟨by decide +kernel, rfl⟩
theorem d_X12_knownBy_37 : kf_dq cX12_knownBy 37 38 1 (.aload_n 0) := ⟨by decide +kernel, rfl⟩
theorem d_X12_knownBy_38 : kf_dq cX12_knownBy 38 41 3 (.getfield 233) := ⟨by decide +kernel, rfl⟩
theorem d_X12_knownBy_41 : kf_dq cX12_knownBy 41 42 1 (.iaload) := ⟨by decide +kernel, rfl⟩
theorem d_X12_knownBy_42 : kf_dj cX12_knownBy 42 45 64 (.if_icmp .gt) := ⟨22, by decide +kernel, rfl, by decide⟩
theorem d_X12_knownBy_45 : kf_dq cX12_knownBy 45 46 1 (.iload_n 2) := ⟨by decide +kernel, rfl⟩
theorem d_X12_knownBy_46 : kf_dj cX12_knownBy 46 49 58 (.ifCond .lt) := ⟨12, by decide +kernel, rfl, by decide⟩
theorem d_X12_knownBy_49 : kf_dq cX12_knownBy 49 51 2 (.iload 5) := ⟨by decide +kernel, rfl⟩
theorem d_X12_knownBy_51 : kf_dq cX12_knownBy 51 52 1 (.iload_n 3) := ⟨by decide +kernel, rfl⟩
theorem d_X12_knownBy_52 : kf_dj cX12_knownBy 52 55 58 (.if_icmp .lt) := ⟨6, by decide +kernel, rfl, by decide⟩
theorem d_X12_knownBy_55 : kf_dj cX12_knownBy 55 58 64 .goto := ⟨9, by decide +kernel, rfl, by decide⟩
theorem d_X12_knownBy_58 : kf_dq cX12_knownBy 58 60 2 (.iload 4) := ⟨by decide +kernel, rfl⟩
theorem d_X12_knownBy_60 : kf_dq cX12_knownBy 60 61 1 (.istore_n 2) := ⟨by decide +kernel, rfl⟩
theorem d_X12_knownBy_61 : kf_dq cX12_knownBy 61 63 2 (.iload 5) := ⟨by decide +kernel, rfl⟩
theorem d_X12_knownBy_63 : kf_dq cX12_knownBy 63 64 1 (.istore_n 3) := ⟨by decide +kernel, rfl⟩
theorem d_X12_knownBy_64 : kf_dq cX12_knownBy 64 67 3 (.iinc 4 1) := ⟨by decide +kernel, rfl⟩
theorem d_X12_knownBy_67 : kf_dj cX12_knownBy 67 70 8 .goto := ⟨(-59), by decide +kernel, rfl, by decide⟩
theorem d_X12_knownBy_70 : kf_dq cX12_knownBy 70 71 1 (.iload_n 2) := ⟨by decide +kernel, rfl⟩
theorem d_X12_knownBy_71 : kf_dq cX12_knownBy 71 72 1 (.ireturn) := ⟨by decide +kernel, rfl⟩
def f_X12_knownBy_64 (rec8 : Nat → Int32 → Int32 → Int32 → Int32 → kf_St → Option (Int32 × kf_St)) (v0 : Nat) (v1 : Int32) (v2 : Int32) (v3 : Int32) (v4 : Int32) (σ : kf_St) : Option (Int32 × kf_St) :=
  kf_lt (v4 + 1) fun v4_1 =>
  rec8 v0 v1 v2 v3 v4_1 σ
set_option maxRecDepth 100000 in
set_option maxHeartbeats 4000000 in
theorem b_X12_knownBy_64 {X : kf_X} {G : kf_G} {rec8 : Nat → Int32 → Int32 → Int32 → Int32 → kf_St → Option (Int32 × kf_St)} {q : (Int32 × kf_St)} (E : kf_ok X G cX12_knownBy RX12 6 (some .int) (3)) (hty : kf_wt G) (hrec8 : ∀ (v0 : Nat) (v1 : Int32) (v2 : Int32) (v3 : Int32) (v4 : Int32) (k_v0 : kf_kd G v0 = 13) (σ : kf_St), rec8 v0 v1 v2 v3 v4 σ = some q → kf_WA X G 6 (kf_Q X G (some (.int q.1)) q.2) 8 [(0, .ref (kf_ad G v0)), (1, .int v1), (2, .int v2), (3, .int v3), (4, .int v4)] [] σ) (v0 : Nat) (v1 : Int32) (v2 : Int32) (v3 : Int32) (v4 : Int32) (k_v0 : kf_kd G v0 = 13) (σ : kf_St) (h : f_X12_knownBy_64 rec8 v0 v1 v2 v3 v4 σ = some q) : kf_WA X G 6 (kf_Q X G (some (.int q.1)) q.2) 64 [(0, .ref (kf_ad G v0)), (1, .int v1), (2, .int v2), (3, .int v3), (4, .int v4)] [] σ := by
  unfold f_X12_knownBy_64 at h
  obtain ⟨v4_1, ev4_1, h⟩ := kf_lte h
  refine wa_iinc (lv' := [(4, .int v4_1), (0, .ref (kf_ad G v0)), (1, .int v1), (2, .int v2), (3, .int v3)]) v4_1 4 rfl (kf_inc ic_1 ev4_1) (by decide) rfl E d_X12_knownBy_64 ?_
  refine wa_goto E d_X12_knownBy_67 ?_
  refine wa_sub [1, 2, 3, 4, 0] rfl ?_
  exact hrec8 v0 v1 v2 v3 v4_1 k_v0 σ h
def f_X12_knownBy_58 (rec8 : Nat → Int32 → Int32 → Int32 → Int32 → kf_St → Option (Int32 × kf_St)) (v0 : Nat) (v1 : Int32) (v4 : Int32) (v5 : Int32) (σ : kf_St) : Option (Int32 × kf_St) :=
  f_X12_knownBy_64 rec8 v0 v1 v4 v5 v4 σ
set_option maxRecDepth 100000 in
set_option maxHeartbeats 4000000 in
theorem b_X12_knownBy_58 {X : kf_X} {G : kf_G} {rec8 : Nat → Int32 → Int32 → Int32 → Int32 → kf_St → Option (Int32 × kf_St)} {q : (Int32 × kf_St)} (E : kf_ok X G cX12_knownBy RX12 6 (some .int) (3)) (hty : kf_wt G) (hrec8 : ∀ (v0 : Nat) (v1 : Int32) (v2 : Int32) (v3 : Int32) (v4 : Int32) (k_v0 : kf_kd G v0 = 13) (σ : kf_St), rec8 v0 v1 v2 v3 v4 σ = some q → kf_WA X G 6 (kf_Q X G (some (.int q.1)) q.2) 8 [(0, .ref (kf_ad G v0)), (1, .int v1), (2, .int v2), (3, .int v3), (4, .int v4)] [] σ) (v0 : Nat) (v1 : Int32) (v4 : Int32) (v5 : Int32) (k_v0 : kf_kd G v0 = 13) (σ : kf_St) (h : f_X12_knownBy_58 rec8 v0 v1 v4 v5 σ = some q) : kf_WA X G 6 (kf_Q X G (some (.int q.1)) q.2) 58 [(0, .ref (kf_ad G v0)), (1, .int v1), (4, .int v4), (5, .int v5)] [] σ := by
  unfold f_X12_knownBy_58 at h
  refine wa_iload 2 rfl E d_X12_knownBy_58 ?_
  refine wa_istore_n (lv' := [(2, .int v4), (0, .ref (kf_ad G v0)), (1, .int v1), (4, .int v4), (5, .int v5)]) rfl (by decide) rfl E d_X12_knownBy_60 ?_
  refine wa_iload 4 rfl E d_X12_knownBy_61 ?_
  refine wa_istore_n (lv' := [(3, .int v5), (2, .int v4), (0, .ref (kf_ad G v0)), (1, .int v1), (4, .int v4), (5, .int v5)]) rfl (by decide) rfl E d_X12_knownBy_63 ?_
  refine wa_sub [2, 3, 1, 0, 4] rfl ?_
  exact b_X12_knownBy_64 E hty hrec8 v0 v1 v4 v5 v4 k_v0 σ h
def f_X12_knownBy_8_s (rec8 : Nat → Int32 → Int32 → Int32 → Int32 → kf_St → Option (Int32 × kf_St)) (v0 : Nat) (v1 : Int32) (v2 : Int32) (v3 : Int32) (v4 : Int32) (σ : kf_St) : Option (Int32 × kf_St) :=
  if kf_ix (σ.1 v0 18) (kf_ln (kf_rf v0 25)) = true then
  if (σ.1 (kf_rf v0 25) (Int32.toNatClampNeg (σ.1 v0 18))) ≤ v4 then
    some (v2, σ)
  else
    (f_X12_unlikeTo v0 v1 v4 σ).bind fun q_3 =>
    if kf_ix (q_3.2.1 v0 18) (kf_ln (kf_rf v0 33)) = true then
    if (q_3.2.1 (kf_rf v0 33) (Int32.toNatClampNeg (q_3.2.1 v0 18))) < q_3.1 then
      f_X12_knownBy_64 rec8 v0 v1 v2 v3 v4 q_3.2
    else
      if v2 < 0 then
        f_X12_knownBy_58 rec8 v0 v1 v4 q_3.1 q_3.2
      else
        if q_3.1 < v3 then
          f_X12_knownBy_58 rec8 v0 v1 v4 q_3.1 q_3.2
        else
          f_X12_knownBy_64 rec8 v0 v1 v2 v3 v4 q_3.2
    else none
  else none
def f_X12_knownBy_8 : Nat → Nat → Int32 → Int32 → Int32 → Int32 → kf_St → Option (Int32 × kf_St)
  | 0, _, _, _, _, _, _ => none
  | n + 1, v0, v1, v2, v3, v4, σ => f_X12_knownBy_8_s (f_X12_knownBy_8 n) v0 v1 v2 v3 v4 σ
set_option maxRecDepth 100000 in
set_option maxHeartbeats 4000000 in
theorem b_X12_knownBy_8_s {X : kf_X} {G : kf_G} (rec8 : Nat → Int32 → Int32 → Int32 → Int32 → kf_St → Option (Int32 × kf_St)) {q : (Int32 × kf_St)} (E : kf_ok X G cX12_knownBy RX12 6 (some .int) (3)) (hty : kf_wt G) (hrec8 : ∀ (v0 : Nat) (v1 : Int32) (v2 : Int32) (v3 : Int32) (v4 : Int32) (k_v0 : kf_kd G v0 = 13) (σ : kf_St), rec8 v0 v1 v2 v3 v4 σ = some q → kf_WA X G 6 (kf_Q X G (some (.int q.1)) q.2) 8 [(0, .ref (kf_ad G v0)), (1, .int v1), (2, .int v2), (3, .int v3), (4, .int v4)] [] σ) (v0 : Nat) (v1 : Int32) (v2 : Int32) (v3 : Int32) (v4 : Int32) (k_v0 : kf_kd G v0 = 13) (σ : kf_St) (h : f_X12_knownBy_8_s rec8 v0 v1 v2 v3 v4 σ = some q) : kf_WA X G 6 (kf_Q X G (some (.int q.1)) q.2) 8 [(0, .ref (kf_ad G v0)), (1, .int v1), (2, .int v2), (3, .int v3), (4, .int v4)] [] σ := by
  unfold f_X12_knownBy_8_s at h
  refine wa_iload 4 rfl E d_X12_knownBy_8 ?_
  refine wa_aload_n 0 rfl E d_X12_knownBy_10 ?_
  refine wa_getR fl_X12_52 k_v0 rfl E d_X12_knownBy_11 ?_
  refine wa_aload_n 0 rfl E d_X12_knownBy_14 ?_
  refine wa_getI fl_X12_233 k_v0 rfl E d_X12_knownBy_15 ?_
  obtain ⟨g_1, h⟩ := kf_gd h
  refine wa_iald (kf_wtf hty 25 49 k_v0 (by decide) rfl) g_1 E d_X12_knownBy_18 ?_
  refine wa_icmp_ge E d_X12_knownBy_19 (fun c_2 => ?_) (fun c_2 => ?_)
  · replace h := kf_ift c_2 h
    refine wa_iload_n 2 rfl E d_X12_knownBy_70 ?_
    cases h
    exact wa_iret E d_X12_knownBy_71
  · replace h := kf_iff c_2 h
    refine wa_aload_n 0 rfl E d_X12_knownBy_22 ?_
    refine wa_iload_n 1 rfl E d_X12_knownBy_23 ?_
    refine wa_iload 4 rfl E d_X12_knownBy_24 ?_
    obtain ⟨q_3, hq_3, h⟩ := kf_bd h
    refine wa_callV (st2 := [.int q_3.1]) (c_X12_unlikeTo hty v0 v1 v4 k_v0 σ hq_3) mv_X12_unlikeTo ml_X12_342 k_v0 rfl (Nat.le_of_ble_eq_true rfl) rfl (Nat.le_of_ble_eq_true rfl) E d_X12_knownBy_26 rfl ?_
    refine wa_istore (lv' := [(5, .int q_3.1), (0, .ref (kf_ad G v0)), (1, .int v1), (2, .int v2), (3, .int v3), (4, .int v4)]) (by decide) rfl E d_X12_knownBy_29 ?_
    refine wa_iload 0 rfl E d_X12_knownBy_31 ?_
    refine wa_aload_n 1 rfl E d_X12_knownBy_33 ?_
    refine wa_getR fl_X12_76 k_v0 rfl E d_X12_knownBy_34 ?_
    refine wa_aload_n 1 rfl E d_X12_knownBy_37 ?_
    refine wa_getI fl_X12_233 k_v0 rfl E d_X12_knownBy_38 ?_
    obtain ⟨g_4, h⟩ := kf_gd h
    refine wa_iald (kf_wtf hty 33 49 k_v0 (by decide) rfl) g_4 E d_X12_knownBy_41 ?_
    refine wa_icmp_gt E d_X12_knownBy_42 (fun c_5 => ?_) (fun c_5 => ?_)
    · replace h := kf_ift c_5 h
      refine wa_sub [1, 2, 3, 4, 5] rfl ?_
      exact b_X12_knownBy_64 E hty hrec8 v0 v1 v2 v3 v4 k_v0 q_3.2 h
    · replace h := kf_iff c_5 h
      refine wa_iload_n 3 rfl E d_X12_knownBy_45 ?_
      refine wa_if_lt E d_X12_knownBy_46 (fun c_6 => ?_) (fun c_6 => ?_)
      · replace h := kf_ift c_6 h
        refine wa_sub [1, 2, 5, 0] rfl ?_
        exact b_X12_knownBy_58 E hty hrec8 v0 v1 v4 q_3.1 k_v0 q_3.2 h
      · replace h := kf_iff c_6 h
        refine wa_iload 0 rfl E d_X12_knownBy_49 ?_
        refine wa_iload_n 4 rfl E d_X12_knownBy_51 ?_
        refine wa_icmp_lt E d_X12_knownBy_52 (fun c_7 => ?_) (fun c_7 => ?_)
        · replace h := kf_ift c_7 h
          refine wa_sub [1, 2, 5, 0] rfl ?_
          exact b_X12_knownBy_58 E hty hrec8 v0 v1 v4 q_3.1 k_v0 q_3.2 h
        · replace h := kf_iff c_7 h
          refine wa_goto E d_X12_knownBy_55 ?_
          refine wa_sub [1, 2, 3, 4, 5] rfl ?_
          exact b_X12_knownBy_64 E hty hrec8 v0 v1 v2 v3 v4 k_v0 q_3.2 h
theorem b_X12_knownBy_8 {X : kf_X} {G : kf_G} {q : (Int32 × kf_St)} (E : kf_ok X G cX12_knownBy RX12 6 (some .int) (3)) (hty : kf_wt G) : ∀ (N : Nat) (v0 : Nat) (v1 : Int32) (v2 : Int32) (v3 : Int32) (v4 : Int32) (k_v0 : kf_kd G v0 = 13) (σ : kf_St) (_ : f_X12_knownBy_8 N v0 v1 v2 v3 v4 σ = some q), kf_WA X G 6 (kf_Q X G (some (.int q.1)) q.2) 8 [(0, .ref (kf_ad G v0)), (1, .int v1), (2, .int v2), (3, .int v3), (4, .int v4)] [] σ
  | 0, _, _, _, _, _, _, _, h => by cases h
  | N + 1, v0, v1, v2, v3, v4, k_v0, σ, h => b_X12_knownBy_8_s _ E hty (b_X12_knownBy_8 E hty N) v0 v1 v2 v3 v4 k_v0 σ h
def f_X12_knownBy (v0 : Nat) (v1 : Int32) (σ : kf_St) : Option (Int32 × kf_St) :=
  f_X12_knownBy_8 kf_F v0 v1 (-2) 0 0 σ
set_option maxRecDepth 100000 in
set_option maxHeartbeats 4000000 in
theorem c_X12_knownBy {G : kf_G} (hty : kf_wt G) (v0 : Nat) (v1 : Int32) (k_v0 : kf_kd G v0 = 13) (σ : kf_St) {q : (Int32 × kf_St)} (h : f_X12_knownBy v0 v1 σ = some q) : kf_Ct (3) yX12_knownBy cX12_knownBy 6 (some .int) G [.ref (kf_ad G v0), .int v1] σ (some (.int q.1)) q.2 := by
  refine kf_Ct.of hty.1 (lv := [(0, .ref (kf_ad G v0)), (1, .int v1)]) (by decide +kernel) rfl (Nat.le_of_ble_eq_true rfl) (fun X E => ?_)
  unfold f_X12_knownBy at h
  refine wa_bipush (-2) bp_m2 E d_X12_knownBy_0 ?_
  refine wa_istore_n (lv' := [(2, .int (-2)), (0, .ref (kf_ad G v0)), (1, .int v1)]) rfl (by decide) rfl E d_X12_knownBy_2 ?_
  refine wa_iconst 0 ic_0 E d_X12_knownBy_3 ?_
  refine wa_istore_n (lv' := [(3, .int 0), (2, .int (-2)), (0, .ref (kf_ad G v0)), (1, .int v1)]) rfl (by decide) rfl E d_X12_knownBy_4 ?_
  refine wa_iconst 0 ic_0 E d_X12_knownBy_5 ?_
  refine wa_istore (lv' := [(4, .int 0), (3, .int 0), (2, .int (-2)), (0, .ref (kf_ad G v0)), (1, .int v1)]) (by decide) rfl E d_X12_knownBy_6 ?_
  refine wa_sub [3, 4, 2, 1, 0] rfl ?_
  exact b_X12_knownBy_8 E hty kf_F v0 v1 (-2) 0 0 k_v0 σ h
/-! X12_looks -/
theorem d_X12_looks_0 : kf_dq cX12_looks 0 1 1 (.aload_n 0) := ⟨by decide +kernel, rfl⟩
theorem d_X12_looks_1 : kf_dq cX12_looks 1 4 3 (.getfield 113) := ⟨by decide +kernel, rfl⟩
theorem d_X12_looks_4 : kf_dq cX12_looks 4 5 1 (.iconst 1) := ⟨by decide +kernel, rfl⟩
theorem d_X12_looks_5 : kf_dq cX12_looks 5 6 1 (.iload_n 2) := ⟨by decide +kernel, rfl⟩
theorem d_X12_looks_6 : kf_dq cX12_looks 6 7 1 (.iastore) := ⟨by decide +kernel, rfl⟩
theorem d_X12_looks_7 : kf_dq cX12_looks 7 8 1 (.aload_n 0) := ⟨by decide +kernel, rfl⟩
theorem d_X12_looks_8 : kf_dq cX12_looks 8 11 3 (.getfield 113) := ⟨by decide +kernel, rfl⟩
theorem d_X12_looks_11 : kf_dq cX12_looks 11 12 1 (.iconst 2) := ⟨by decide +kernel, rfl⟩
theorem d_X12_looks_12 : kf_dq cX12_looks 12 13 1 (.aload_n 0) := ⟨by decide +kernel, rfl⟩
theorem d_X12_looks_13 : kf_dq cX12_looks 13 16 3 (.getfield 122) := ⟨by decide +kernel, rfl⟩
theorem d_X12_looks_16 : kf_dq cX12_looks 16 18 2 (.bipush 24) := ⟨by decide +kernel, rfl⟩
theorem d_X12_looks_18 : kf_dq cX12_looks 18 19 1 (.iload_n 1) := ⟨by decide +kernel, rfl⟩
theorem d_X12_looks_19 : kf_dq cX12_looks 19 20 1 (.iadd) := ⟨by decide +kernel, rfl⟩
theorem d_X12_looks_20 : kf_dq cX12_looks 20 21 1 (.iaload) := ⟨by decide +kernel, rfl⟩
theorem d_X12_looks_21 : kf_dq cX12_looks 21 22 1 (.iastore) := ⟨by decide +kernel, rfl⟩
theorem d_X12_looks_22 : kf_dq cX12_looks 22 23 1 (.aload_n 0) := ⟨by decide +kernel, rfl⟩
theorem d_X12_looks_23 : kf_dq cX12_looks 23 26 3 (.getfield 113) := ⟨by decide +kernel, rfl⟩
theorem d_X12_looks_26 : kf_dq cX12_looks 26 27 1 (.iconst 3) := ⟨by decide +kernel, rfl⟩
theorem d_X12_looks_27 : kf_dq cX12_looks 27 28 1 (.aload_n 0) := ⟨by decide +kernel, rfl⟩
theorem d_X12_looks_28 : kf_dq cX12_looks 28 31 3 (.getfield 122) := ⟨by decide +kernel, rfl⟩
theorem d_X12_looks_31 : kf_dq cX12_looks 31 33 2 (.bipush 30) := ⟨by decide +kernel, rfl⟩
theorem d_X12_looks_33 : kf_dq cX12_looks 33 34 1 (.iload_n 1) := ⟨by decide +kernel, rfl⟩
theorem d_X12_looks_34 : kf_dq cX12_looks 34 35 1 (.iadd) := ⟨by decide +kernel, rfl⟩
theorem d_X12_looks_35 : kf_dq cX12_looks 35 36 1 (.iaload) := ⟨by decide +kernel, rfl⟩
theorem d_X12_looks_36 : kf_dq cX12_looks 36 37 1 (.iastore) := ⟨by decide +kernel, rfl⟩
theorem d_X12_looks_37 : kf_dq cX12_looks 37 38 1 (.aload_n 0) := ⟨by decide +kernel, rfl⟩
theorem d_X12_looks_38 : kf_dq cX12_looks 38 41 3 (.getfield 113) := ⟨by decide +kernel, rfl⟩
theorem d_X12_looks_41 : kf_dq cX12_looks 41 42 1 (.iconst 4) := ⟨by decide +kernel, rfl⟩
theorem d_X12_looks_42 : kf_dq cX12_looks 42 43 1 (.aload_n 0) := ⟨by decide +kernel, rfl⟩
theorem d_X12_looks_43 : kf_dq cX12_looks 43 46 3 (.getfield 122) := ⟨by decide +kernel, rfl⟩
theorem d_X12_looks_46 : kf_dq cX12_looks 46 48 2 (.bipush 69) := ⟨by decide +kernel, rfl⟩
theorem d_X12_looks_48 : kf_dq cX12_looks 48 49 1 (.iaload) := ⟨by decide +kernel, rfl⟩
theorem d_X12_looks_49 : kf_dq cX12_looks 49 50 1 (.iastore) := ⟨by decide +kernel, rfl⟩
theorem d_X12_looks_50 : kf_dq cX12_looks 50 51 1 (.aload_n 0) := ⟨by decide +kernel, rfl⟩
theorem d_X12_looks_51 : kf_dq cX12_looks 51 54 3 (.getfield 113) := ⟨by decide +kernel, rfl⟩
theorem d_X12_looks_54 : kf_dq cX12_looks 54 55 1 (.iconst 5) := ⟨by decide +kernel, rfl⟩
theorem d_X12_looks_55 : kf_dq cX12_looks 55 56 1 (.aload_n 0) := ⟨by decide +kernel, rfl⟩
theorem d_X12_looks_56 : kf_dq cX12_looks 56 59 3 (.getfield 122) := ⟨by decide +kernel, rfl⟩
theorem d_X12_looks_59 : kf_dq cX12_looks 59 60 1 (.iconst 4) := ⟨by decide +kernel, rfl⟩
theorem d_X12_looks_60 : kf_dq cX12_looks 60 61 1 (.iload_n 1) := ⟨by decide +kernel, rfl⟩
theorem d_X12_looks_61 : kf_dq cX12_looks 61 62 1 (.imul) := ⟨by decide +kernel, rfl⟩
theorem d_X12_looks_62 : kf_dq cX12_looks 62 63 1 (.iload_n 2) := ⟨by decide +kernel, rfl⟩
theorem d_X12_looks_63 : kf_dq cX12_looks 63 64 1 (.iadd) := ⟨by decide +kernel, rfl⟩
theorem d_X12_looks_64 : kf_dq cX12_looks 64 65 1 (.iaload) := ⟨by decide +kernel, rfl⟩
theorem d_X12_looks_65 : kf_dq cX12_looks 65 66 1 (.iastore) := ⟨by decide +kernel, rfl⟩
theorem d_X12_looks_66 : kf_dq cX12_looks 66 67 1 (.aload_n 0) := ⟨by decide +kernel, rfl⟩
theorem d_X12_looks_67 : kf_dq cX12_looks 67 70 3 (.getfield 113) := ⟨by decide +kernel, rfl⟩
theorem d_X12_looks_70 : kf_dq cX12_looks 70 72 2 (.bipush 8) := ⟨by decide +kernel, rfl⟩
theorem d_X12_looks_72 : kf_dq cX12_looks 72 73 1 (.aload_n 0) := ⟨by decide +kernel, rfl⟩
theorem d_X12_looks_73 : kf_dq cX12_looks 73 76 3 (.getfield 122) := ⟨by decide +kernel, rfl⟩
theorem d_X12_looks_76 : kf_dq cX12_looks 76 78 2 (.bipush 36) := ⟨by decide +kernel, rfl⟩
theorem d_X12_looks_78 : kf_dq cX12_looks 78 79 1 (.iload_n 1) := ⟨by decide +kernel, rfl⟩
theorem d_X12_looks_79 : kf_dq cX12_looks 79 80 1 (.iadd) := ⟨by decide +kernel, rfl⟩
theorem d_X12_looks_80 : kf_dq cX12_looks 80 81 1 (.iaload) := ⟨by decide +kernel, rfl⟩
theorem d_X12_looks_81 : kf_dq cX12_looks 81 82 1 (.iastore) := ⟨by decide +kernel, rfl⟩
theorem d_X12_looks_82 : kf_dq cX12_looks 82 83 1 (.return_) := ⟨by decide +kernel, rfl⟩
def f_X12_looks (v0 : Nat) (v1 : Int32) (v2 : Int32) (σ : kf_St) : Option kf_St :=
  if kf_ix 1 (kf_ln (kf_rf v0 48)) = true then
  kf_lt (kf_wi σ (kf_rf v0 48) (Int32.toNatClampNeg 1) v2) fun σ_2 =>
  if kf_ix (24 + v1) (kf_ln (kf_rf v0 52)) = true then
  if kf_ix 2 (kf_ln (kf_rf v0 48)) = true then
  kf_lt (kf_wi σ_2 (kf_rf v0 48) (Int32.toNatClampNeg 2) (σ_2.1 (kf_rf v0 52) (Int32.toNatClampNeg (24 + v1)))) fun σ_5 =>
  if kf_ix (30 + v1) (kf_ln (kf_rf v0 52)) = true then
  if kf_ix 3 (kf_ln (kf_rf v0 48)) = true then
  kf_lt (kf_wi σ_5 (kf_rf v0 48) (Int32.toNatClampNeg 3) (σ_5.1 (kf_rf v0 52) (Int32.toNatClampNeg (30 + v1)))) fun σ_8 =>
  if kf_ix 69 (kf_ln (kf_rf v0 52)) = true then
  if kf_ix 4 (kf_ln (kf_rf v0 48)) = true then
  kf_lt (kf_wi σ_8 (kf_rf v0 48) (Int32.toNatClampNeg 4) (σ_8.1 (kf_rf v0 52) (Int32.toNatClampNeg 69))) fun σ_11 =>
  if kf_ix ((4 * v1) + v2) (kf_ln (kf_rf v0 52)) = true then
  if kf_ix 5 (kf_ln (kf_rf v0 48)) = true then
  kf_lt (kf_wi σ_11 (kf_rf v0 48) (Int32.toNatClampNeg 5) (σ_11.1 (kf_rf v0 52) (Int32.toNatClampNeg ((4 * v1) + v2)))) fun σ_14 =>
  if kf_ix (36 + v1) (kf_ln (kf_rf v0 52)) = true then
  if kf_ix 8 (kf_ln (kf_rf v0 48)) = true then
  kf_lt (kf_wi σ_14 (kf_rf v0 48) (Int32.toNatClampNeg 8) (σ_14.1 (kf_rf v0 52) (Int32.toNatClampNeg (36 + v1)))) fun σ_17 =>
  some σ_17
  else none
  else none
  else none
  else none
  else none
  else none
  else none
  else none
  else none
  else none
  else none
set_option maxRecDepth 100000 in
set_option maxHeartbeats 4000000 in
theorem c_X12_looks {G : kf_G} (hty : kf_wt G) (v0 : Nat) (v1 : Int32) (v2 : Int32) (k_v0 : kf_kd G v0 = 13) (σ : kf_St) {q : kf_St} (h : f_X12_looks v0 v1 v2 σ = some q) : kf_Ct (1) yX12_looks cX12_looks 3 none G [.ref (kf_ad G v0), .int v1, .int v2] σ none q := by
  refine kf_Ct.of hty.1 (lv := [(0, .ref (kf_ad G v0)), (1, .int v1), (2, .int v2)]) (by decide +kernel) rfl (Nat.le_of_ble_eq_true rfl) (fun X E => ?_)
  unfold f_X12_looks at h
  refine wa_aload_n 0 rfl E d_X12_looks_0 ?_
  refine wa_getR fl_X12_113 k_v0 rfl E d_X12_looks_1 ?_
  refine wa_iconst 1 ic_1 E d_X12_looks_4 ?_
  refine wa_iload_n 2 rfl E d_X12_looks_5 ?_
  obtain ⟨g_1, h⟩ := kf_gd h
  obtain ⟨σ_2, eσ_2, h⟩ := kf_lte h
  refine wa_iast (kf_wtf hty 48 49 k_v0 (by decide) rfl) g_1 E d_X12_looks_6 eσ_2 ?_
  refine wa_aload_n 0 rfl E d_X12_looks_7 ?_
  refine wa_getR fl_X12_113 k_v0 rfl E d_X12_looks_8 ?_
  refine wa_iconst 2 ic_2 E d_X12_looks_11 ?_
  refine wa_aload_n 0 rfl E d_X12_looks_12 ?_
  refine wa_getR fl_X12_122 k_v0 rfl E d_X12_looks_13 ?_
  refine wa_bipush 24 bp_24 E d_X12_looks_16 ?_
  refine wa_iload_n 1 rfl E d_X12_looks_18 ?_
  refine wa_iadd E d_X12_looks_19 ?_
  obtain ⟨g_3, h⟩ := kf_gd h
  refine wa_iald (kf_wtf hty 52 49 k_v0 (by decide) rfl) g_3 E d_X12_looks_20 ?_
  obtain ⟨g_4, h⟩ := kf_gd h
  obtain ⟨σ_5, eσ_5, h⟩ := kf_lte h
  refine wa_iast (kf_wtf hty 48 49 k_v0 (by decide) rfl) g_4 E d_X12_looks_21 eσ_5 ?_
  refine wa_aload_n 0 rfl E d_X12_looks_22 ?_
  refine wa_getR fl_X12_113 k_v0 rfl E d_X12_looks_23 ?_
  refine wa_iconst 3 ic_3 E d_X12_looks_26 ?_
  refine wa_aload_n 0 rfl E d_X12_looks_27 ?_
  refine wa_getR fl_X12_122 k_v0 rfl E d_X12_looks_28 ?_
  refine wa_bipush 30 bp_30 E d_X12_looks_31 ?_
  refine wa_iload_n 1 rfl E d_X12_looks_33 ?_
  refine wa_iadd E d_X12_looks_34 ?_
  obtain ⟨g_6, h⟩ := kf_gd h
  refine wa_iald (kf_wtf hty 52 49 k_v0 (by decide) rfl) g_6 E d_X12_looks_35 ?_
  obtain ⟨g_7, h⟩ := kf_gd h
  obtain ⟨σ_8, eσ_8, h⟩ := kf_lte h
  refine wa_iast (kf_wtf hty 48 49 k_v0 (by decide) rfl) g_7 E d_X12_looks_36 eσ_8 ?_
  refine wa_aload_n 0 rfl E d_X12_looks_37 ?_
  refine wa_getR fl_X12_113 k_v0 rfl E d_X12_looks_38 ?_
  refine wa_iconst 4 ic_4 E d_X12_looks_41 ?_
  refine wa_aload_n 0 rfl E d_X12_looks_42 ?_
  refine wa_getR fl_X12_122 k_v0 rfl E d_X12_looks_43 ?_
  refine wa_bipush 69 bp_69 E d_X12_looks_46 ?_
  obtain ⟨g_9, h⟩ := kf_gd h
  refine wa_iald (kf_wtf hty 52 49 k_v0 (by decide) rfl) g_9 E d_X12_looks_48 ?_
  obtain ⟨g_10, h⟩ := kf_gd h
  obtain ⟨σ_11, eσ_11, h⟩ := kf_lte h
  refine wa_iast (kf_wtf hty 48 49 k_v0 (by decide) rfl) g_10 E d_X12_looks_49 eσ_11 ?_
  refine wa_aload_n 0 rfl E d_X12_looks_50 ?_
  refine wa_getR fl_X12_113 k_v0 rfl E d_X12_looks_51 ?_
  refine wa_iconst 5 ic_5 E d_X12_looks_54 ?_
  refine wa_aload_n 0 rfl E d_X12_looks_55 ?_
  refine wa_getR fl_X12_122 k_v0 rfl E d_X12_looks_56 ?_
  refine wa_iconst 4 ic_4 E d_X12_looks_59 ?_
  refine wa_iload_n 1 rfl E d_X12_looks_60 ?_
  refine wa_imul E d_X12_looks_61 ?_
  refine wa_iload_n 2 rfl E d_X12_looks_62 ?_
  refine wa_iadd E d_X12_looks_63 ?_
  obtain ⟨g_12, h⟩ := kf_gd h
  refine wa_iald (kf_wtf hty 52 49 k_v0 (by decide) rfl) g_12 E d_X12_looks_64 ?_
  obtain ⟨g_13, h⟩ := kf_gd h
  obtain ⟨σ_14, eσ_14, h⟩ := kf_lte h
  refine wa_iast (kf_wtf hty 48 49 k_v0 (by decide) rfl) g_13 E d_X12_looks_65 eσ_14 ?_
  refine wa_aload_n 0 rfl E d_X12_looks_66 ?_
  refine wa_getR fl_X12_113 k_v0 rfl E d_X12_looks_67 ?_
  refine wa_bipush 8 bp_8 E d_X12_looks_70 ?_
  refine wa_aload_n 0 rfl E d_X12_looks_72 ?_
  refine wa_getR fl_X12_122 k_v0 rfl E d_X12_looks_73 ?_
  refine wa_bipush 36 bp_36 E d_X12_looks_76 ?_
  refine wa_iload_n 1 rfl E d_X12_looks_78 ?_
  refine wa_iadd E d_X12_looks_79 ?_
  obtain ⟨g_15, h⟩ := kf_gd h
  refine wa_iald (kf_wtf hty 52 49 k_v0 (by decide) rfl) g_15 E d_X12_looks_80 ?_
  obtain ⟨g_16, h⟩ := kf_gd h
  obtain ⟨σ_17, eσ_17, h⟩ := kf_lte h
  refine wa_iast (kf_wtf hty 48 49 k_v0 (by decide) rfl) g_16 E d_X12_looks_81 eσ_17 ?_
  cases h
  exact wa_vret E d_X12_looks_82
/-! X12_lawTells -/
theorem d_X12_lawTells_0 : kf_dq cX12_lawTells 0 1 1 (.iconst 3) := ⟨by decide +kernel, rfl⟩
theorem d_X12_lawTells_1 : kf_dq cX12_lawTells 1 2 1 (.aload_n 0) := ⟨by decide +kernel, rfl⟩
theorem d_X12_lawTells_2 : kf_dq cX12_lawTells 2 5 3 (.getfield 233) := ⟨by decide +kernel, rfl⟩
theorem d_X12_lawTells_5 : kf_dq cX12_lawTells 5 6 1 (.imul) := ⟨by decide +kernel, rfl⟩
theorem d_X12_lawTells_6 : kf_dq cX12_lawTells 6 7 1 (.iload_n 1) := ⟨by decide +kernel, rfl⟩
theorem d_X12_lawTells_7 : kf_dq cX12_lawTells 7 8 1 (.iadd) := ⟨by decide +kernel, rfl⟩
theorem d_X12_lawTells_8 : kf_dq cX12_lawTells 8 9 1 (.istore_n 3) := ⟨by decide +kernel, rfl⟩
theorem d_X12_lawTells_9 : kf_dq cX12_lawTells 9 10 1 (.aload_n 0) := ⟨by decide +kernel, rfl⟩
theorem d_X12_lawTells_10 : kf_dq cX12_lawTells 10 13 3 (.getfield 82) := ⟨by decide +kernel, rfl⟩
theorem d_X12_lawTells_13 : kf_dq cX12_lawTells 13 14 1 (.iload_n 3) := ⟨by decide +kernel, rfl⟩
theorem d_X12_lawTells_14 : kf_dq cX12_lawTells 14 15 1 (.iaload) := ⟨by decide +kernel, rfl⟩
theorem d_X12_lawTells_15 : kf_dq cX12_lawTells 15 16 1 (.aload_n 0) := ⟨by decide +kernel, rfl⟩
theorem d_X12_lawTells_16 : kf_dq cX12_lawTells 16 19 3 (.getfield 85) := ⟨by decide +kernel, rfl⟩
theorem d_X12_lawTells_19 : kf_dq cX12_lawTells 19 20 1 (.iload_n 3) := ⟨by decide +kernel, rfl⟩
theorem d_X12_lawTells_20 : kf_dq cX12_lawTells 20 21 1 (.iaload) := ⟨by decide +kernel, rfl⟩
theorem d_X12_lawTells_21 : kf_dj cX12_lawTells 21 24 26 (.if_icmp .ne) := ⟨5, by decide +kernel, rfl, by decide⟩
theorem d_X12_lawTells_24 : kf_dq cX12_lawTells 24 25 1 (.iload_n 2) := ⟨by decide +kernel, rfl⟩
theorem d_X12_lawTells_25 : kf_dq cX12_lawTells 25 26 1 (.ireturn) := ⟨by decide +kernel, rfl⟩
theorem d_X12_lawTells_26 : kf_dq cX12_lawTells 26 27 1 (.aload_n 0) := ⟨by decide +kernel, rfl⟩
theorem d_X12_lawTells_27 : kf_dq cX12_lawTells 27 28 1 (.iconst 0) := ⟨by decide +kernel, rfl⟩
theorem d_X12_lawTells_28 : kf_dq cX12_lawTells 28 31 3 (.putfield 309) := ⟨by decide +kernel, rfl⟩
theorem d_X12_lawTells_31 : kf_dq cX12_lawTells 31 32 1 (.aload_n 0) := ⟨by decide +kernel, rfl⟩
theorem d_X12_lawTells_32 : kf_dq cX12_lawTells 32 35 3 (.getfield 82) := ⟨by decide +kernel, rfl⟩
theorem d_X12_lawTells_35 : kf_dq cX12_lawTells 35 36 1 (.iload_n 3) := ⟨by decide +kernel, rfl⟩
theorem d_X12_lawTells_36 : kf_dq cX12_lawTells 36 37 1 (.iaload) := ⟨by decide +kernel, rfl⟩
theorem d_X12_lawTells_37 : kf_dq cX12_lawTells 37 39 2 (.istore 4) := ⟨by decide +kernel, rfl⟩
theorem d_X12_lawTells_39 : kf_dq cX12_lawTells 39 41 2 (.iload 4) := ⟨by decide +kernel, rfl⟩
theorem d_X12_lawTells_41 : kf_dq cX12_lawTells 41 42 1 (.aload_n 0) := ⟨by decide +kernel, rfl⟩
theorem d_X12_lawTells_42 : kf_dq cX12_lawTells 42 45 3 (.getfield 85) := ⟨by decide +kernel, rfl⟩
theorem d_X12_lawTells_45 : kf_dq cX12_lawTells 45 46 1 (.iload_n 3) := ⟨by decide +kernel, rfl⟩
theorem d_X12_lawTells_46 : kf_dq cX12_lawTells 46 47 1 (.iaload) := ⟨by decide +kernel, rfl⟩
theorem d_X12_lawTells_47 : kf_dj cX12_lawTells 47 50 159 (.if_icmp .ge) := ⟨112, by decide +kernel, rfl, by decide⟩
theorem d_X12_lawTells_50 : kf_dq cX12_lawTells 50 51 1 (.aload_n 0) := ⟨by decide +kernel, rfl⟩
theorem d_X12_lawTells_51 : kf_dq cX12_lawTells 51 54 3 (.getfield 88) := ⟨by decide +kernel, rfl⟩
theorem d_X12_lawTells_54 : kf_dq cX12_lawTells 54 56 2 (.iload 4) := ⟨by decide +kernel, rfl⟩
theorem d_X12_lawTells_56 : kf_dq cX12_lawTells 56 57 1 (.baload) := ⟨by decide +kernel, rfl⟩
theorem d_X12_lawTells_57 : kf_dj cX12_lawTells 57 60 119 (.ifCond .eq) := ⟨62, by decide +kernel, rfl, by decide⟩
theorem d_X12_lawTells_60 : kf_dq cX12_lawTells 60 61 1 (.aload_n 0) := ⟨by decide +kernel, rfl⟩
theorem d_X12_lawTells_61 : kf_dq cX12_lawTells 61 62 1 (.aload_n 0) := ⟨by decide +kernel, rfl⟩
theorem d_X12_lawTells_62 : kf_dq cX12_lawTells 62 65 3 (.getfield 92) := ⟨by decide +kernel, rfl⟩
theorem d_X12_lawTells_65 : kf_dq cX12_lawTells 65 67 2 (.iload 4) := ⟨by decide +kernel, rfl⟩
theorem d_X12_lawTells_67 : kf_dq cX12_lawTells 67 68 1 (.iaload) := ⟨by decide +kernel, rfl⟩
theorem d_X12_lawTells_68 : kf_dq cX12_lawTells 68 69 1 (.aload_n 0) := ⟨by decide +kernel, rfl⟩
theorem d_X12_lawTells_69 : kf_dq cX12_lawTells 69 72 3 (.getfield 95) := ⟨by decide +kernel, rfl⟩
theorem d_X12_lawTells_72 : kf_dq cX12_lawTells 72 74 2 (.iload 4) := ⟨by decide +kernel, rfl⟩
theorem d_X12_lawTells_74 : kf_dq cX12_lawTells 74 75 1 (.iaload) := ⟨by decide +kernel, rfl⟩
theorem d_X12_lawTells_75 : kf_dq cX12_lawTells 75 78 3 (.invokevirtual 345) := ⟨by decide +kernel, rfl⟩
theorem d_X12_lawTells_78 : kf_dq cX12_lawTells 78 80 2 (.istore 5) := ⟨by decide +kernel, rfl⟩
theorem d_X12_lawTells_80 : kf_dq cX12_lawTells 80 81 1 (.aload_n 0) := ⟨by decide +kernel, rfl⟩
theorem d_X12_lawTells_81 : kf_dq cX12_lawTells 81 82 1 (.aload_n 0) := ⟨by decide +kernel, rfl⟩
theorem d_X12_lawTells_82 : kf_dq cX12_lawTells 82 85 3 (.getfield 95) := ⟨by decide +kernel, rfl⟩
theorem d_X12_lawTells_85 : kf_dq cX12_lawTells 85 87 2 (.iload 4) := ⟨by decide +kernel, rfl⟩
theorem d_X12_lawTells_87 : kf_dq cX12_lawTells 87 88 1 (.iaload) := ⟨by decide +kernel, rfl⟩
theorem d_X12_lawTells_88 : kf_dq cX12_lawTells 88 89 1 (.aload_n 0) := ⟨by decide +kernel, rfl⟩
theorem d_X12_lawTells_89 : kf_dq cX12_lawTells 89 92 3 (.getfield 98) := ⟨by decide +kernel, rfl⟩
theorem d_X12_lawTells_92 : kf_dq cX12_lawTells 92 94 2 (.iload 4) := ⟨by decide +kernel, rfl⟩
theorem d_X12_lawTells_94 : kf_dq cX12_lawTells 94 95 1 (.iaload) := ⟨by decide +kernel, rfl⟩
theorem d_X12_lawTells_95 : kf_dq cX12_lawTells 95 98 3 (.invokevirtual 345) := ⟨by decide +kernel, rfl⟩
theorem d_X12_lawTells_98 : kf_dq cX12_lawTells 98 100 2 (.istore 6) := ⟨by decide +kernel, rfl⟩
theorem d_X12_lawTells_100 : kf_dq cX12_lawTells 100 101 1 (.aload_n 0) := ⟨by decide +kernel, rfl⟩
theorem d_X12_lawTells_101 : kf_dq cX12_lawTells 101 104 3 (.getfield 309) := ⟨by decide +kernel, rfl⟩
theorem d_X12_lawTells_104 : kf_dj cX12_lawTells 104 107 109 (.ifCond .eq) := ⟨5, by decide +kernel, rfl, by decide⟩
theorem d_X12_lawTells_107 : kf_dq cX12_lawTells 107 108 1 (.iconst 0) := ⟨by decide +kernel, rfl⟩
theorem d_X12_lawTells_108 : kf_dq cX12_lawTells 108 109 1 (.ireturn) := ⟨by decide +kernel, rfl⟩
theorem d_X12_lawTells_109 : kf_dq cX12_lawTells 109 111 2 (.iload 5) := ⟨by decide +kernel, rfl⟩
theorem d_X12_lawTells_111 : kf_dq cX12_lawTells 111 113 2 (.iload 6) := ⟨by decide +kernel, rfl⟩
theorem d_X12_lawTells_113 : kf_dj cX12_lawTells 113 116 119 (.if_icmp .lt) := ⟨6, by decide +kernel, rfl, by decide⟩
theorem d_X12_lawTells_116 : kf_dj cX12_lawTells 116 119 153 .goto := ⟨37, by decide +kernel, rfl, by decide⟩
theorem d_X12_lawTells_119 : kf_dq cX12_lawTells 119 120 1 (.aload_n 0) := ⟨by decide +kernel, rfl⟩
theorem d_X12_lawTells_120 : kf_dq cX12_lawTells 120 121 1 (.aload_n 0) := ⟨by decide +kernel, rfl⟩
theorem d_X12_lawTells_121 : kf_dq cX12_lawTells 121 124 3 (.getfield 98) := ⟨by decide +kernel, rfl⟩
theorem d_X12_lawTells_124 : kf_dq cX12_lawTells 124 126 2 (.iload 4) := ⟨by decide +kernel, rfl⟩
theorem d_X12_lawTells_126 : kf_dq cX12_lawTells 126 127 1 (.iaload) := ⟨by decide +kernel, rfl⟩
theorem d_X12_lawTells_127 : kf_dq cX12_lawTells 127 128 1 (.aload_n 0) := ⟨by decide +kernel, rfl⟩
theorem d_X12_lawTells_128 : kf_dq cX12_lawTells 128 131 3 (.getfield 101) := ⟨by decide +kernel, rfl⟩
theorem d_X12_lawTells_131 : kf_dq cX12_lawTells 131 133 2 (.iload 4) := ⟨by decide +kernel, rfl⟩
theorem d_X12_lawTells_133 : kf_dq cX12_lawTells 133 134 1 (.iaload) := ⟨by decide +kernel, rfl⟩
theorem d_X12_lawTells_134 : kf_dq cX12_lawTells 134 137 3 (.invokevirtual 345) := ⟨by decide +kernel, rfl⟩
theorem d_X12_lawTells_137 : kf_dq cX12_lawTells 137 139 2 (.istore 5) := ⟨by decide +kernel, rfl⟩
theorem d_X12_lawTells_139 : kf_dq cX12_lawTells 139 140 1 (.aload_n 0) := ⟨by decide +kernel, rfl⟩
theorem d_X12_lawTells_140 : kf_dq cX12_lawTells 140 143 3 (.getfield 309) := ⟨by decide +kernel, rfl⟩
theorem d_X12_lawTells_143 : kf_dj cX12_lawTells 143 146 150 (.ifCond .eq) := ⟨7, by decide +kernel, rfl, by decide⟩
theorem d_X12_lawTells_146 : kf_dq cX12_lawTells 146 147 1 (.iconst 0) := ⟨by decide +kernel, rfl⟩
theorem d_X12_lawTells_147 : kf_dj cX12_lawTells 147 150 152 .goto := ⟨5, by decide +kernel, rfl, by decide⟩
theorem d_X12_lawTells_150 : kf_dq cX12_lawTells 150 152 2 (.iload 5) := ⟨by decide +kernel, rfl⟩
theorem d_X12_lawTells_152 : kf_dq cX12_lawTells 152 153 1 (.ireturn) := ⟨by decide +kernel, rfl⟩
theorem d_X12_lawTells_153 : kf_dq cX12_lawTells 153 156 3 (.iinc 4 1) := ⟨by decide +kernel, rfl⟩
theorem d_X12_lawTells_156 : kf_dj cX12_lawTells 156 159 39 .goto := ⟨(-117), by decide +kernel, rfl, by decide⟩
theorem d_X12_lawTells_159 : kf_dq cX12_lawTells 159 160 1 (.iconst 0) := ⟨by decide +kernel, rfl⟩
theorem d_X12_lawTells_160 : kf_dq cX12_lawTells 160 161 1 (.ireturn) := ⟨by decide +kernel, rfl⟩
def f_X12_lawTells_119 (v0 : Nat) (v4 : Int32) (σ : kf_St) : Option (Int32 × kf_St) :=
  if kf_ix v4 (kf_ln (kf_rf v0 41)) = true then
  if kf_ix v4 (kf_ln (kf_rf v0 42)) = true then
  (f_X12_termOf v0 (σ.1 (kf_rf v0 41) (Int32.toNatClampNeg v4)) (σ.1 (kf_rf v0 42) (Int32.toNatClampNeg v4)) σ).bind fun q_3 =>
  if (q_3.2.1 v0 50) = 0 then
    some (q_3.1, q_3.2)
  else
    some (0, q_3.2)
  else none
  else none
set_option maxRecDepth 100000 in
set_option maxHeartbeats 4000000 in
theorem b_X12_lawTells_119 {X : kf_X} {G : kf_G} {q : (Int32 × kf_St)} (E : kf_ok X G cX12_lawTells RX12 7 (some .int) (2)) (hty : kf_wt G) (v0 : Nat) (v4 : Int32) (k_v0 : kf_kd G v0 = 13) (σ : kf_St) (h : f_X12_lawTells_119 v0 v4 σ = some q) : kf_WA X G 7 (kf_Q X G (some (.int q.1)) q.2) 119 [(0, .ref (kf_ad G v0)), (4, .int v4)] [] σ := by
  unfold f_X12_lawTells_119 at h
  refine wa_aload_n 0 rfl E d_X12_lawTells_119 ?_
  refine wa_aload_n 0 rfl E d_X12_lawTells_120 ?_
  refine wa_getR fl_X12_98 k_v0 rfl E d_X12_lawTells_121 ?_
  refine wa_iload 1 rfl E d_X12_lawTells_124 ?_
  obtain ⟨g_1, h⟩ := kf_gd h
  refine wa_iald (kf_wtf hty 41 49 k_v0 (by decide) rfl) g_1 E d_X12_lawTells_126 ?_
  refine wa_aload_n 0 rfl E d_X12_lawTells_127 ?_
  refine wa_getR fl_X12_101 k_v0 rfl E d_X12_lawTells_128 ?_
  refine wa_iload 1 rfl E d_X12_lawTells_131 ?_
  obtain ⟨g_2, h⟩ := kf_gd h
  refine wa_iald (kf_wtf hty 42 49 k_v0 (by decide) rfl) g_2 E d_X12_lawTells_133 ?_
  obtain ⟨q_3, hq_3, h⟩ := kf_bd h
  refine wa_callV (st2 := [.int q_3.1]) (c_X12_termOf hty v0 (σ.1 (kf_rf v0 41) (Int32.toNatClampNeg v4)) (σ.1 (kf_rf v0 42) (Int32.toNatClampNeg v4)) k_v0 σ hq_3) mv_X12_termOf ml_X12_345 k_v0 rfl (Nat.le_of_ble_eq_true rfl) rfl (Nat.le_of_ble_eq_true rfl) E d_X12_lawTells_134 rfl ?_
  refine wa_istore (lv' := [(5, .int q_3.1), (0, .ref (kf_ad G v0)), (4, .int v4)]) (by decide) rfl E d_X12_lawTells_137 ?_
  refine wa_aload_n 1 rfl E d_X12_lawTells_139 ?_
  refine wa_getZ fl_X12_309 k_v0 rfl E d_X12_lawTells_140 ?_
  refine wa_if_eq E d_X12_lawTells_143 (fun c_4 => ?_) (fun c_4 => ?_)
  · replace h := kf_ift c_4 h
    refine wa_iload 0 rfl E d_X12_lawTells_150 ?_
    cases h
    exact wa_iret E d_X12_lawTells_152
  · replace h := kf_iff c_4 h
    refine wa_iconst 0 ic_0 E d_X12_lawTells_146 ?_
    refine wa_goto E d_X12_lawTells_147 ?_
    cases h
    exact wa_iret E d_X12_lawTells_152
def f_X12_lawTells_39_s (rec39 : Nat → Int32 → Int32 → kf_St → Option (Int32 × kf_St)) (v0 : Nat) (v3 : Int32) (v4 : Int32) (σ : kf_St) : Option (Int32 × kf_St) :=
  if kf_ix v3 (kf_ln (kf_rf v0 36)) = true then
  if (σ.1 (kf_rf v0 36) (Int32.toNatClampNeg v3)) ≤ v4 then
    some (0, σ)
  else
    if kf_ix v4 (kf_ln (kf_rf v0 38)) = true then
    if (σ.1 (kf_rf v0 38) (Int32.toNatClampNeg v4)) = 0 then
      f_X12_lawTells_119 v0 v4 σ
    else
      if kf_ix v4 (kf_ln (kf_rf v0 39)) = true then
      if kf_ix v4 (kf_ln (kf_rf v0 40)) = true then
      (f_X12_termOf v0 (σ.1 (kf_rf v0 39) (Int32.toNatClampNeg v4)) (σ.1 (kf_rf v0 40) (Int32.toNatClampNeg v4)) σ).bind fun q_7 =>
      if kf_ix v4 (kf_ln (kf_rf v0 40)) = true then
      if kf_ix v4 (kf_ln (kf_rf v0 41)) = true then
      (f_X12_termOf v0 (q_7.2.1 (kf_rf v0 40) (Int32.toNatClampNeg v4)) (q_7.2.1 (kf_rf v0 41) (Int32.toNatClampNeg v4)) q_7.2).bind fun q_10 =>
      if (q_10.2.1 v0 50) = 0 then
        if q_7.1 < q_10.1 then
          f_X12_lawTells_119 v0 v4 q_10.2
        else
          kf_lt (v4 + 1) fun v4_13 =>
          rec39 v0 v3 v4_13 q_10.2
      else
        some (0, q_10.2)
      else none
      else none
      else none
      else none
    else none
  else none
def f_X12_lawTells_39 : Nat → Nat → Int32 → Int32 → kf_St → Option (Int32 × kf_St)
  | 0, _, _, _, _ => none
  | n + 1, v0, v3, v4, σ => f_X12_lawTells_39_s (f_X12_lawTells_39 n) v0 v3 v4 σ
set_option maxRecDepth 100000 in
set_option maxHeartbeats 4000000 in
theorem b_X12_lawTells_39_s {X : kf_X} {G : kf_G} (rec39 : Nat → Int32 → Int32 → kf_St → Option (Int32 × kf_St)) {q : (Int32 × kf_St)} (E : kf_ok X G cX12_lawTells RX12 7 (some .int) (2)) (hty : kf_wt G) (hrec39 : ∀ (v0 : Nat) (v3 : Int32) (v4 : Int32) (k_v0 : kf_kd G v0 = 13) (σ : kf_St), rec39 v0 v3 v4 σ = some q → kf_WA X G 7 (kf_Q X G (some (.int q.1)) q.2) 39 [(0, .ref (kf_ad G v0)), (3, .int v3), (4, .int v4)] [] σ) (v0 : Nat) (v3 : Int32) (v4 : Int32) (k_v0 : kf_kd G v0 = 13) (σ : kf_St) (h : f_X12_lawTells_39_s rec39 v0 v3 v4 σ = some q) : kf_WA X G 7 (kf_Q X G (some (.int q.1)) q.2) 39 [(0, .ref (kf_ad G v0)), (3, .int v3), (4, .int v4)] [] σ := by
  unfold f_X12_lawTells_39_s at h
  refine wa_iload 2 rfl E d_X12_lawTells_39 ?_
  refine wa_aload_n 0 rfl E d_X12_lawTells_41 ?_
  refine wa_getR fl_X12_85 k_v0 rfl E d_X12_lawTells_42 ?_
  refine wa_iload_n 1 rfl E d_X12_lawTells_45 ?_
  obtain ⟨g_1, h⟩ := kf_gd h
  refine wa_iald (kf_wtf hty 36 49 k_v0 (by decide) rfl) g_1 E d_X12_lawTells_46 ?_
  refine wa_icmp_ge E d_X12_lawTells_47 (fun c_2 => ?_) (fun c_2 => ?_)
  · replace h := kf_ift c_2 h
    refine wa_iconst 0 ic_0 E d_X12_lawTells_159 ?_
    cases h
    exact wa_iret E d_X12_lawTells_160
  · replace h := kf_iff c_2 h
    refine wa_aload_n 0 rfl E d_X12_lawTells_50 ?_
    refine wa_getR fl_X12_88 k_v0 rfl E d_X12_lawTells_51 ?_
    refine wa_iload 2 rfl E d_X12_lawTells_54 ?_
    obtain ⟨g_3, h⟩ := kf_gd h
    refine wa_zald (kf_wtf hty 38 52 k_v0 (by decide) rfl) g_3 E d_X12_lawTells_56 ?_
    refine wa_if_eq E d_X12_lawTells_57 (fun c_4 => ?_) (fun c_4 => ?_)
    · replace h := kf_ift c_4 h
      refine wa_sub [0, 2] rfl ?_
      exact b_X12_lawTells_119 E hty v0 v4 k_v0 σ h
    · replace h := kf_iff c_4 h
      refine wa_aload_n 0 rfl E d_X12_lawTells_60 ?_
      refine wa_aload_n 0 rfl E d_X12_lawTells_61 ?_
      refine wa_getR fl_X12_92 k_v0 rfl E d_X12_lawTells_62 ?_
      refine wa_iload 2 rfl E d_X12_lawTells_65 ?_
      obtain ⟨g_5, h⟩ := kf_gd h
      refine wa_iald (kf_wtf hty 39 49 k_v0 (by decide) rfl) g_5 E d_X12_lawTells_67 ?_
      refine wa_aload_n 0 rfl E d_X12_lawTells_68 ?_
      refine wa_getR fl_X12_95 k_v0 rfl E d_X12_lawTells_69 ?_
      refine wa_iload 2 rfl E d_X12_lawTells_72 ?_
      obtain ⟨g_6, h⟩ := kf_gd h
      refine wa_iald (kf_wtf hty 40 49 k_v0 (by decide) rfl) g_6 E d_X12_lawTells_74 ?_
      obtain ⟨q_7, hq_7, h⟩ := kf_bd h
      refine wa_callV (st2 := [.int q_7.1]) (c_X12_termOf hty v0 (σ.1 (kf_rf v0 39) (Int32.toNatClampNeg v4)) (σ.1 (kf_rf v0 40) (Int32.toNatClampNeg v4)) k_v0 σ hq_7) mv_X12_termOf ml_X12_345 k_v0 rfl (Nat.le_of_ble_eq_true rfl) rfl (Nat.le_of_ble_eq_true rfl) E d_X12_lawTells_75 rfl ?_
      refine wa_istore (lv' := [(5, .int q_7.1), (0, .ref (kf_ad G v0)), (3, .int v3), (4, .int v4)]) (by decide) rfl E d_X12_lawTells_78 ?_
      refine wa_aload_n 1 rfl E d_X12_lawTells_80 ?_
      refine wa_aload_n 1 rfl E d_X12_lawTells_81 ?_
      refine wa_getR fl_X12_95 k_v0 rfl E d_X12_lawTells_82 ?_
      refine wa_iload 3 rfl E d_X12_lawTells_85 ?_
      obtain ⟨g_8, h⟩ := kf_gd h
      refine wa_iald (kf_wtf hty 40 49 k_v0 (by decide) rfl) g_8 E d_X12_lawTells_87 ?_
      refine wa_aload_n 1 rfl E d_X12_lawTells_88 ?_
      refine wa_getR fl_X12_98 k_v0 rfl E d_X12_lawTells_89 ?_
      refine wa_iload 3 rfl E d_X12_lawTells_92 ?_
      obtain ⟨g_9, h⟩ := kf_gd h
      refine wa_iald (kf_wtf hty 41 49 k_v0 (by decide) rfl) g_9 E d_X12_lawTells_94 ?_
      obtain ⟨q_10, hq_10, h⟩ := kf_bd h
      refine wa_callV (st2 := [.int q_10.1]) (c_X12_termOf hty v0 (q_7.2.1 (kf_rf v0 40) (Int32.toNatClampNeg v4)) (q_7.2.1 (kf_rf v0 41) (Int32.toNatClampNeg v4)) k_v0 q_7.2 hq_10) mv_X12_termOf ml_X12_345 k_v0 rfl (Nat.le_of_ble_eq_true rfl) rfl (Nat.le_of_ble_eq_true rfl) E d_X12_lawTells_95 rfl ?_
      refine wa_istore (lv' := [(6, .int q_10.1), (5, .int q_7.1), (0, .ref (kf_ad G v0)), (3, .int v3), (4, .int v4)]) (by decide) rfl E d_X12_lawTells_98 ?_
      refine wa_aload_n 2 rfl E d_X12_lawTells_100 ?_
      refine wa_getZ fl_X12_309 k_v0 rfl E d_X12_lawTells_101 ?_
      refine wa_if_eq E d_X12_lawTells_104 (fun c_11 => ?_) (fun c_11 => ?_)
      · replace h := kf_ift c_11 h
        refine wa_iload 1 rfl E d_X12_lawTells_109 ?_
        refine wa_iload 0 rfl E d_X12_lawTells_111 ?_
        refine wa_icmp_lt E d_X12_lawTells_113 (fun c_12 => ?_) (fun c_12 => ?_)
        · replace h := kf_ift c_12 h
          refine wa_sub [2, 4] rfl ?_
          exact b_X12_lawTells_119 E hty v0 v4 k_v0 q_10.2 h
        · replace h := kf_iff c_12 h
          refine wa_goto E d_X12_lawTells_116 ?_
          obtain ⟨v4_13, ev4_13, h⟩ := kf_lte h
          refine wa_iinc (lv' := [(4, .int v4_13), (6, .int q_10.1), (5, .int q_7.1), (0, .ref (kf_ad G v0)), (3, .int v3)]) v4_13 4 rfl (kf_inc ic_1 ev4_13) (by decide) rfl E d_X12_lawTells_153 ?_
          refine wa_goto E d_X12_lawTells_156 ?_
          refine wa_sub [3, 4, 0] rfl ?_
          exact hrec39 v0 v3 v4_13 k_v0 q_10.2 h
      · replace h := kf_iff c_11 h
        refine wa_iconst 0 ic_0 E d_X12_lawTells_107 ?_
        cases h
        exact wa_iret E d_X12_lawTells_108
theorem b_X12_lawTells_39 {X : kf_X} {G : kf_G} {q : (Int32 × kf_St)} (E : kf_ok X G cX12_lawTells RX12 7 (some .int) (2)) (hty : kf_wt G) : ∀ (N : Nat) (v0 : Nat) (v3 : Int32) (v4 : Int32) (k_v0 : kf_kd G v0 = 13) (σ : kf_St) (_ : f_X12_lawTells_39 N v0 v3 v4 σ = some q), kf_WA X G 7 (kf_Q X G (some (.int q.1)) q.2) 39 [(0, .ref (kf_ad G v0)), (3, .int v3), (4, .int v4)] [] σ
  | 0, _, _, _, _, _, h => by cases h
  | N + 1, v0, v3, v4, k_v0, σ, h => b_X12_lawTells_39_s _ E hty (b_X12_lawTells_39 E hty N) v0 v3 v4 k_v0 σ h
def f_X12_lawTells (v0 : Nat) (v1 : Int32) (v2 : Int32) (σ : kf_St) : Option (Int32 × kf_St) :=
  kf_lt (((3 * (σ.1 v0 18)) + v1)) fun v3_1 =>
  if kf_ix v3_1 (kf_ln (kf_rf v0 35)) = true then
  if kf_ix v3_1 (kf_ln (kf_rf v0 36)) = true then
  if (σ.1 (kf_rf v0 35) (Int32.toNatClampNeg v3_1)) = (σ.1 (kf_rf v0 36) (Int32.toNatClampNeg v3_1)) then
    some (v2, σ)
  else
    kf_lt (kf_wi σ v0 50 0) fun σ_5 =>
    if kf_ix v3_1 (kf_ln (kf_rf v0 35)) = true then
    kf_lt ((σ_5.1 (kf_rf v0 35) (Int32.toNatClampNeg v3_1))) fun v4_7 =>
    f_X12_lawTells_39 kf_F v0 v3_1 v4_7 σ_5
    else none
  else none
  else none
set_option maxRecDepth 100000 in
set_option maxHeartbeats 4000000 in
theorem c_X12_lawTells {G : kf_G} (hty : kf_wt G) (v0 : Nat) (v1 : Int32) (v2 : Int32) (k_v0 : kf_kd G v0 = 13) (σ : kf_St) {q : (Int32 × kf_St)} (h : f_X12_lawTells v0 v1 v2 σ = some q) : kf_Ct (2) yX12_lawTells cX12_lawTells 7 (some .int) G [.ref (kf_ad G v0), .int v1, .int v2] σ (some (.int q.1)) q.2 := by
  refine kf_Ct.of hty.1 (lv := [(0, .ref (kf_ad G v0)), (1, .int v1), (2, .int v2)]) (by decide +kernel) rfl (Nat.le_of_ble_eq_true rfl) (fun X E => ?_)
  unfold f_X12_lawTells at h
  refine wa_iconst 3 ic_3 E d_X12_lawTells_0 ?_
  refine wa_aload_n 0 rfl E d_X12_lawTells_1 ?_
  refine wa_getI fl_X12_233 k_v0 rfl E d_X12_lawTells_2 ?_
  refine wa_imul E d_X12_lawTells_5 ?_
  refine wa_iload_n 1 rfl E d_X12_lawTells_6 ?_
  refine wa_iadd E d_X12_lawTells_7 ?_
  obtain ⟨v3_1, ev3_1, h⟩ := kf_lte h
  refine wa_topi ev3_1 ?_
  refine wa_istore_n (lv' := [(3, .int v3_1), (0, .ref (kf_ad G v0)), (1, .int v1), (2, .int v2)]) rfl (by decide) rfl E d_X12_lawTells_8 ?_
  refine wa_aload_n 1 rfl E d_X12_lawTells_9 ?_
  refine wa_getR fl_X12_82 k_v0 rfl E d_X12_lawTells_10 ?_
  refine wa_iload_n 0 rfl E d_X12_lawTells_13 ?_
  obtain ⟨g_2, h⟩ := kf_gd h
  refine wa_iald (kf_wtf hty 35 49 k_v0 (by decide) rfl) g_2 E d_X12_lawTells_14 ?_
  refine wa_aload_n 1 rfl E d_X12_lawTells_15 ?_
  refine wa_getR fl_X12_85 k_v0 rfl E d_X12_lawTells_16 ?_
  refine wa_iload_n 0 rfl E d_X12_lawTells_19 ?_
  obtain ⟨g_3, h⟩ := kf_gd h
  refine wa_iald (kf_wtf hty 36 49 k_v0 (by decide) rfl) g_3 E d_X12_lawTells_20 ?_
  refine wa_icmp_ne E d_X12_lawTells_21 (fun c_4 => ?_) (fun c_4 => ?_)
  · replace h := kf_iff c_4 h
    refine wa_aload_n 1 rfl E d_X12_lawTells_26 ?_
    refine wa_iconst 0 ic_0 E d_X12_lawTells_27 ?_
    obtain ⟨σ_5, eσ_5, h⟩ := kf_lte h
    refine wa_putI fl_X12_309 fp_12_50 k_v0 rfl (by decide) kf_z0 kf_f0 E d_X12_lawTells_28 eσ_5 ?_
    refine wa_aload_n 1 rfl E d_X12_lawTells_31 ?_
    refine wa_getR fl_X12_82 k_v0 rfl E d_X12_lawTells_32 ?_
    refine wa_iload_n 0 rfl E d_X12_lawTells_35 ?_
    obtain ⟨g_6, h⟩ := kf_gd h
    refine wa_iald (kf_wtf hty 35 49 k_v0 (by decide) rfl) g_6 E d_X12_lawTells_36 ?_
    obtain ⟨v4_7, ev4_7, h⟩ := kf_lte h
    refine wa_topi ev4_7 ?_
    refine wa_istore (lv' := [(4, .int v4_7), (3, .int v3_1), (0, .ref (kf_ad G v0)), (1, .int v1), (2, .int v2)]) (by decide) rfl E d_X12_lawTells_37 ?_
    refine wa_sub [2, 1, 0] rfl ?_
    exact b_X12_lawTells_39 E hty kf_F v0 v3_1 v4_7 k_v0 σ_5 h
  · replace h := kf_ift c_4 h
    refine wa_iload_n 3 rfl E d_X12_lawTells_24 ?_
    cases h
    exact wa_iret E d_X12_lawTells_25
/-! X12_givesOf -/
theorem d_X12_givesOf_0 : kf_dq cX12_givesOf 0 1 1 (.aload_n 0) := ⟨by decide +kernel, rfl⟩
theorem d_X12_givesOf_1 : kf_dq cX12_givesOf 1 2 1 (.iload_n 1) := ⟨by decide +kernel, rfl⟩
theorem d_X12_givesOf_2 : kf_dq cX12_givesOf 2 3 1 (.iload_n 3) := ⟨by decide +kernel, rfl⟩
theorem d_X12_givesOf_3 : kf_dq cX12_givesOf 3 6 3 (.invokevirtual 348) := ⟨by decide +kernel, rfl⟩
theorem d_X12_givesOf_6 : kf_dq cX12_givesOf 6 7 1 (.aload_n 0) := ⟨by decide +kernel, rfl⟩
theorem d_X12_givesOf_7 : kf_dq cX12_givesOf 7 10 3 (.getfield 122) := ⟨by decide +kernel, rfl⟩
theorem d_X12_givesOf_10 : kf_dq cX12_givesOf 10 11 1 (.iconst 4) := ⟨by decide +kernel, rfl⟩
theorem d_X12_givesOf_11 : kf_dq cX12_givesOf 11 12 1 (.iload_n 1) := ⟨by decide +kernel, rfl⟩
theorem d_X12_givesOf_12 : kf_dq cX12_givesOf 12 13 1 (.imul) := ⟨by decide +kernel, rfl⟩
theorem d_X12_givesOf_13 : kf_dq cX12_givesOf 13 14 1 (.iload_n 3) := ⟨by decide +kernel, rfl⟩
theorem d_X12_givesOf_14 : kf_dq cX12_givesOf 14 15 1 (.iadd) := ⟨by decide +kernel, rfl⟩
theorem d_X12_givesOf_15 : kf_dq cX12_givesOf 15 16 1 (.iaload) := ⟨by decide +kernel, rfl⟩
theorem d_X12_givesOf_16 : kf_dq cX12_givesOf 16 17 1 (.aload_n 0) := ⟨by decide +kernel, rfl⟩
theorem d_X12_givesOf_17 : kf_dq cX12_givesOf 17 18 1 (.iload_n 2) := ⟨by decide +kernel, rfl⟩
theorem d_X12_givesOf_18 : kf_dq cX12_givesOf 18 19 1 (.iload_n 3) := ⟨by decide +kernel, rfl⟩
theorem d_X12_givesOf_19 : kf_dq cX12_givesOf 19 22 3 (.invokevirtual 333) := ⟨by decide +kernel, rfl⟩
theorem d_X12_givesOf_22 : kf_dq cX12_givesOf 22 25 3 (.invokestatic 336) := ⟨by decide +kernel, rfl⟩
theorem d_X12_givesOf_25 : kf_dq cX12_givesOf 25 27 2 (.istore 4) := ⟨by decide +kernel, rfl⟩
theorem d_X12_givesOf_27 : kf_dq cX12_givesOf 27 28 1 (.aload_n 0) := ⟨by decide +kernel, rfl⟩
theorem d_X12_givesOf_28 : kf_dq cX12_givesOf 28 31 3 (.getfield 113) := ⟨by decide +kernel, rfl⟩
theorem d_X12_givesOf_31 : kf_dq cX12_givesOf 31 32 1 (.iconst 0) := ⟨by decide +kernel, rfl⟩
theorem d_X12_givesOf_32 : kf_dq cX12_givesOf 32 34 2 (.iload 4) := ⟨by decide +kernel, rfl⟩
theorem d_X12_givesOf_34 : kf_dq cX12_givesOf 34 35 1 (.iastore) := ⟨by decide +kernel, rfl⟩
theorem d_X12_givesOf_35 : kf_dq cX12_givesOf 35 36 1 (.aload_n 0) := ⟨by decide +kernel, rfl⟩
theorem d_X12_givesOf_36 : kf_dq cX12_givesOf 36 39 3 (.getfield 113) := ⟨by decide +kernel, rfl⟩
theorem d_X12_givesOf_39 : kf_dq cX12_givesOf 39 41 2 (.bipush 6) := ⟨by decide +kernel, rfl⟩
theorem d_X12_givesOf_41 : kf_dq cX12_givesOf 41 42 1 (.aload_n 0) := ⟨by decide +kernel, rfl⟩
theorem d_X12_givesOf_42 : kf_dq cX12_givesOf 42 43 1 (.iload_n 1) := ⟨by decide +kernel, rfl⟩
theorem d_X12_givesOf_43 : kf_dq cX12_givesOf 43 44 1 (.iload_n 2) := ⟨by decide +kernel, rfl⟩
theorem d_X12_givesOf_44 : kf_dq cX12_givesOf 44 47 3 (.invokevirtual 342) := ⟨by decide +kernel, rfl⟩
theorem d_X12_givesOf_47 : kf_dq cX12_givesOf 47 48 1 (.iastore) := ⟨by decide +kernel, rfl⟩
theorem d_X12_givesOf_48 : kf_dq cX12_givesOf 48 49 1 (.aload_n 0) := ⟨by decide +kernel, rfl⟩
theorem d_X12_givesOf_49 : kf_dq cX12_givesOf 49 52 3 (.getfield 113) := ⟨by decide +kernel, rfl⟩
theorem d_X12_givesOf_52 : kf_dq cX12_givesOf 52 54 2 (.bipush 7) := ⟨by decide +kernel, rfl⟩
theorem d_X12_givesOf_54 : kf_dq cX12_givesOf 54 55 1 (.iload_n 2) := ⟨by decide +kernel, rfl⟩
theorem d_X12_givesOf_55 : kf_dq cX12_givesOf 55 56 1 (.iastore) := ⟨by decide +kernel, rfl⟩
theorem d_X12_givesOf_56 : kf_dq cX12_givesOf 56 57 1 (.aload_n 0) := ⟨by decide +kernel, rfl⟩
theorem d_X12_givesOf_57 : kf_dq cX12_givesOf 57 58 1 (.iconst 0) := ⟨by decide +kernel, rfl⟩
theorem d_X12_givesOf_58 : kf_dq cX12_givesOf 58 59 1 (.iconst 1) := ⟨by decide +kernel, rfl⟩
theorem d_X12_givesOf_59 : kf_dq cX12_givesOf 59 62 3 (.invokevirtual 351) := ⟨by decide +kernel, rfl⟩
theorem d_X12_givesOf_62 : kf_dq cX12_givesOf 62 63 1 (.iconst 0) := ⟨by decide +kernel, rfl⟩
theorem d_X12_givesOf_63 : kf_dq cX12_givesOf 63 65 2 (.iload 4) := ⟨by decide +kernel, rfl⟩
theorem d_X12_givesOf_65 : kf_dq cX12_givesOf 65 68 3 (.invokestatic 354) := ⟨by decide +kernel, rfl⟩
theorem d_X12_givesOf_68 : kf_dq cX12_givesOf 68 69 1 (.ireturn) := ⟨by decide +kernel, rfl⟩
def f_X12_givesOf (v0 : Nat) (v1 : Int32) (v2 : Int32) (v3 : Int32) (σ : kf_St) : Option (Int32 × kf_St) :=
  (f_X12_looks v0 v1 v3 σ).bind fun q_1 =>
  if kf_ix ((4 * v1) + v3) (kf_ln (kf_rf v0 52)) = true then
  (f_X12_facePart v0 v2 v3 q_1).bind fun q_3 =>
  (f_X12_off (q_1.1 (kf_rf v0 52) (Int32.toNatClampNeg ((4 * v1) + v3))) q_3.1 q_3.2).bind fun q_4 =>
  if kf_ix 0 (kf_ln (kf_rf v0 48)) = true then
  kf_lt (kf_wi q_4.2 (kf_rf v0 48) (Int32.toNatClampNeg 0) q_4.1) fun σ_6 =>
  (f_X12_unlikeTo v0 v1 v2 σ_6).bind fun q_7 =>
  if kf_ix 6 (kf_ln (kf_rf v0 48)) = true then
  kf_lt (kf_wi q_7.2 (kf_rf v0 48) (Int32.toNatClampNeg 6) q_7.1) fun σ_9 =>
  if kf_ix 7 (kf_ln (kf_rf v0 48)) = true then
  kf_lt (kf_wi σ_9 (kf_rf v0 48) (Int32.toNatClampNeg 7) v2) fun σ_11 =>
  (f_X12_lawTells v0 0 1 σ_11).bind fun q_12 =>
  (f_X12_within q_12.1 0 q_4.1 q_12.2).bind fun q_13 =>
  some (q_13.1, q_13.2)
  else none
  else none
  else none
  else none
set_option maxRecDepth 100000 in
set_option maxHeartbeats 4000000 in
theorem c_X12_givesOf {G : kf_G} (hty : kf_wt G) (v0 : Nat) (v1 : Int32) (v2 : Int32) (v3 : Int32) (k_v0 : kf_kd G v0 = 13) (σ : kf_St) {q : (Int32 × kf_St)} (h : f_X12_givesOf v0 v1 v2 v3 σ = some q) : kf_Ct (3) yX12_givesOf cX12_givesOf 5 (some .int) G [.ref (kf_ad G v0), .int v1, .int v2, .int v3] σ (some (.int q.1)) q.2 := by
  refine kf_Ct.of hty.1 (lv := [(0, .ref (kf_ad G v0)), (1, .int v1), (2, .int v2), (3, .int v3)]) (by decide +kernel) rfl (Nat.le_of_ble_eq_true rfl) (fun X E => ?_)
  unfold f_X12_givesOf at h
  refine wa_aload_n 0 rfl E d_X12_givesOf_0 ?_
  refine wa_iload_n 1 rfl E d_X12_givesOf_1 ?_
  refine wa_iload_n 3 rfl E d_X12_givesOf_2 ?_
  obtain ⟨q_1, hq_1, h⟩ := kf_bd h
  refine wa_callV (st2 := []) (c_X12_looks hty v0 v1 v3 k_v0 σ hq_1) mv_X12_looks ml_X12_348 k_v0 rfl (Nat.le_of_ble_eq_true rfl) rfl (Nat.le_of_ble_eq_true rfl) E d_X12_givesOf_3 rfl ?_
  refine wa_aload_n 0 rfl E d_X12_givesOf_6 ?_
  refine wa_getR fl_X12_122 k_v0 rfl E d_X12_givesOf_7 ?_
  refine wa_iconst 4 ic_4 E d_X12_givesOf_10 ?_
  refine wa_iload_n 1 rfl E d_X12_givesOf_11 ?_
  refine wa_imul E d_X12_givesOf_12 ?_
  refine wa_iload_n 3 rfl E d_X12_givesOf_13 ?_
  refine wa_iadd E d_X12_givesOf_14 ?_
  obtain ⟨g_2, h⟩ := kf_gd h
  refine wa_iald (kf_wtf hty 52 49 k_v0 (by decide) rfl) g_2 E d_X12_givesOf_15 ?_
  refine wa_aload_n 0 rfl E d_X12_givesOf_16 ?_
  refine wa_iload_n 2 rfl E d_X12_givesOf_17 ?_
  refine wa_iload_n 3 rfl E d_X12_givesOf_18 ?_
  obtain ⟨q_3, hq_3, h⟩ := kf_bd h
  refine wa_callV (st2 := [.int q_3.1, .int (q_1.1 (kf_rf v0 52) (Int32.toNatClampNeg ((4 * v1) + v3)))]) (c_X12_facePart hty v0 v2 v3 k_v0 q_1 hq_3) mv_X12_facePart ml_X12_333 k_v0 rfl (Nat.le_of_ble_eq_true rfl) rfl (Nat.le_of_ble_eq_true rfl) E d_X12_givesOf_19 rfl ?_
  obtain ⟨q_4, hq_4, h⟩ := kf_bd h
  refine wa_callS (st2 := [.int q_4.1]) (c_X12_off hty (q_1.1 (kf_rf v0 52) (Int32.toNatClampNeg ((4 * v1) + v3))) q_3.1 q_3.2 hq_4) mt_X12_off ml_X12_336 rfl (Nat.le_of_ble_eq_true rfl) rfl (Nat.le_of_ble_eq_true rfl) E d_X12_givesOf_22 rfl ?_
  refine wa_istore (lv' := [(4, .int q_4.1), (0, .ref (kf_ad G v0)), (1, .int v1), (2, .int v2), (3, .int v3)]) (by decide) rfl E d_X12_givesOf_25 ?_
  refine wa_aload_n 1 rfl E d_X12_givesOf_27 ?_
  refine wa_getR fl_X12_113 k_v0 rfl E d_X12_givesOf_28 ?_
  refine wa_iconst 0 ic_0 E d_X12_givesOf_31 ?_
  refine wa_iload 0 rfl E d_X12_givesOf_32 ?_
  obtain ⟨g_5, h⟩ := kf_gd h
  obtain ⟨σ_6, eσ_6, h⟩ := kf_lte h
  refine wa_iast (kf_wtf hty 48 49 k_v0 (by decide) rfl) g_5 E d_X12_givesOf_34 eσ_6 ?_
  refine wa_aload_n 1 rfl E d_X12_givesOf_35 ?_
  refine wa_getR fl_X12_113 k_v0 rfl E d_X12_givesOf_36 ?_
  refine wa_bipush 6 bp_6 E d_X12_givesOf_39 ?_
  refine wa_aload_n 1 rfl E d_X12_givesOf_41 ?_
  refine wa_iload_n 2 rfl E d_X12_givesOf_42 ?_
  refine wa_iload_n 3 rfl E d_X12_givesOf_43 ?_
  obtain ⟨q_7, hq_7, h⟩ := kf_bd h
  refine wa_callV (st2 := [.int q_7.1, .int 6, .ref (kf_ad G (kf_rf v0 48))]) (c_X12_unlikeTo hty v0 v1 v2 k_v0 σ_6 hq_7) mv_X12_unlikeTo ml_X12_342 k_v0 rfl (Nat.le_of_ble_eq_true rfl) rfl (Nat.le_of_ble_eq_true rfl) E d_X12_givesOf_44 rfl ?_
  obtain ⟨g_8, h⟩ := kf_gd h
  obtain ⟨σ_9, eσ_9, h⟩ := kf_lte h
  refine wa_iast (kf_wtf hty 48 49 k_v0 (by decide) rfl) g_8 E d_X12_givesOf_47 eσ_9 ?_
  refine wa_aload_n 1 rfl E d_X12_givesOf_48 ?_
  refine wa_getR fl_X12_113 k_v0 rfl E d_X12_givesOf_49 ?_
  refine wa_bipush 7 bp_7 E d_X12_givesOf_52 ?_
  refine wa_iload_n 3 rfl E d_X12_givesOf_54 ?_
  obtain ⟨g_10, h⟩ := kf_gd h
  obtain ⟨σ_11, eσ_11, h⟩ := kf_lte h
  refine wa_iast (kf_wtf hty 48 49 k_v0 (by decide) rfl) g_10 E d_X12_givesOf_55 eσ_11 ?_
  refine wa_aload_n 1 rfl E d_X12_givesOf_56 ?_
  refine wa_iconst 0 ic_0 E d_X12_givesOf_57 ?_
  refine wa_iconst 1 ic_1 E d_X12_givesOf_58 ?_
  obtain ⟨q_12, hq_12, h⟩ := kf_bd h
  refine wa_callV (st2 := [.int q_12.1]) (c_X12_lawTells hty v0 0 1 k_v0 σ_11 hq_12) mv_X12_lawTells ml_X12_351 k_v0 rfl (Nat.le_of_ble_eq_true rfl) rfl (Nat.le_of_ble_eq_true rfl) E d_X12_givesOf_59 rfl ?_
  refine wa_iconst 0 ic_0 E d_X12_givesOf_62 ?_
  refine wa_iload 0 rfl E d_X12_givesOf_63 ?_
  obtain ⟨q_13, hq_13, h⟩ := kf_bd h
  refine wa_callS (st2 := [.int q_13.1]) (c_X12_within hty q_12.1 0 q_4.1 q_12.2 hq_13) mt_X12_within ml_X12_354 rfl (Nat.le_of_ble_eq_true rfl) rfl (Nat.le_of_ble_eq_true rfl) E d_X12_givesOf_65 rfl ?_
  cases h
  exact wa_iret E d_X12_givesOf_68
/-! X12_paysOf -/
theorem d_X12_paysOf_0 : kf_dq cX12_paysOf 0 1 1 (.aload_n 0) := ⟨by decide +kernel, rfl⟩
theorem d_X12_paysOf_1 : kf_dq cX12_paysOf 1 2 1 (.iload_n 1) := ⟨by decide +kernel, rfl⟩
theorem d_X12_paysOf_2 : kf_dq cX12_paysOf 2 3 1 (.iconst 0) := ⟨by decide +kernel, rfl⟩
theorem d_X12_paysOf_3 : kf_dq cX12_paysOf 3 6 3 (.invokevirtual 348) := ⟨by decide +kernel, rfl⟩
theorem d_X12_paysOf_6 : kf_dq cX12_paysOf 6 7 1 (.aload_n 0) := ⟨by decide +kernel, rfl⟩
theorem d_X12_paysOf_7 : kf_dq cX12_paysOf 7 10 3 (.getfield 113) := ⟨by decide +kernel, rfl⟩
theorem d_X12_paysOf_10 : kf_dq cX12_paysOf 10 11 1 (.iconst 0) := ⟨by decide +kernel, rfl⟩
theorem d_X12_paysOf_11 : kf_dq cX12_paysOf 11 12 1 (.iconst 0) := ⟨by decide +kernel, rfl⟩
theorem d_X12_paysOf_12 : kf_dq cX12_paysOf 12 13 1 (.iastore) := ⟨by decide +kernel, rfl⟩
theorem d_X12_paysOf_13 : kf_dq cX12_paysOf 13 14 1 (.aload_n 0) := ⟨by decide +kernel, rfl⟩
theorem d_X12_paysOf_14 : kf_dq cX12_paysOf 14 17 3 (.getfield 113) := ⟨by decide +kernel, rfl⟩
theorem d_X12_paysOf_17 : kf_dq cX12_paysOf 17 18 1 (.iconst 5) := ⟨by decide +kernel, rfl⟩
theorem d_X12_paysOf_18 : kf_dq cX12_paysOf 18 19 1 (.iconst 0) := ⟨by decide +kernel, rfl⟩
theorem d_X12_paysOf_19 : kf_dq cX12_paysOf 19 20 1 (.iastore) := ⟨by decide +kernel, rfl⟩
theorem d_X12_paysOf_20 : kf_dq cX12_paysOf 20 21 1 (.aload_n 0) := ⟨by decide +kernel, rfl⟩
theorem d_X12_paysOf_21 : kf_dq cX12_paysOf 21 24 3 (.getfield 113) := ⟨by decide +kernel, rfl⟩
theorem d_X12_paysOf_24 : kf_dq cX12_paysOf 24 26 2 (.bipush 6) := ⟨by decide +kernel, rfl⟩
theorem d_X12_paysOf_26 : kf_dq cX12_paysOf 26 27 1 (.aload_n 0) := ⟨by decide +kernel, rfl⟩
theorem d_X12_paysOf_27 : kf_dq cX12_paysOf 27 28 1 (.iload_n 1) := ⟨by decide +kernel, rfl⟩
theorem d_X12_paysOf_28 : kf_dq cX12_paysOf 28 29 1 (.iload_n 2) := ⟨by decide +kernel, rfl⟩
theorem d_X12_paysOf_29 : kf_dq cX12_paysOf 29 32 3 (.invokevirtual 342) := ⟨by decide +kernel, rfl⟩
theorem d_X12_paysOf_32 : kf_dq cX12_paysOf 32 33 1 (.iastore) := ⟨by decide +kernel, rfl⟩
theorem d_X12_paysOf_33 : kf_dq cX12_paysOf 33 34 1 (.aload_n 0) := ⟨by decide +kernel, rfl⟩
theorem d_X12_paysOf_34 : kf_dq cX12_paysOf 34 37 3 (.getfield 113) := ⟨by decide +kernel, rfl⟩
theorem d_X12_paysOf_37 : kf_dq cX12_paysOf 37 39 2 (.bipush 7) := ⟨by decide +kernel, rfl⟩
theorem d_X12_paysOf_39 : kf_dq cX12_paysOf 39 40 1 (.iload_n 2) := ⟨by decide +kernel, rfl⟩
theorem d_X12_paysOf_40 : kf_dq cX12_paysOf 40 41 1 (.iastore) := ⟨by decide +kernel, rfl⟩
theorem d_X12_paysOf_41 : kf_dq cX12_paysOf 41 42 1 (.aload_n 0) := ⟨by decide +kernel, rfl⟩
theorem d_X12_paysOf_42 : kf_dq cX12_paysOf 42 43 1 (.iconst 2) := ⟨by decide +kernel, rfl⟩
theorem d_X12_paysOf_43 : kf_dq cX12_paysOf 43 44 1 (.iconst 1) := ⟨by decide +kernel, rfl⟩
theorem d_X12_paysOf_44 : kf_dq cX12_paysOf 44 47 3 (.invokevirtual 351) := ⟨by decide +kernel, rfl⟩
theorem d_X12_paysOf_47 : kf_dq cX12_paysOf 47 48 1 (.iconst 0) := ⟨by decide +kernel, rfl⟩
theorem d_X12_paysOf_48 : kf_dq cX12_paysOf 48 50 2 (.bipush 99) := ⟨by decide +kernel, rfl⟩
theorem d_X12_paysOf_50 : kf_dq cX12_paysOf 50 53 3 (.invokestatic 354) := ⟨by decide +kernel, rfl⟩
theorem d_X12_paysOf_53 : kf_dq cX12_paysOf 53 54 1 (.ireturn) := ⟨by decide +kernel, rfl⟩
def f_X12_paysOf (v0 : Nat) (v1 : Int32) (v2 : Int32) (σ : kf_St) : Option (Int32 × kf_St) :=
  (f_X12_looks v0 v1 0 σ).bind fun q_1 =>
  if kf_ix 0 (kf_ln (kf_rf v0 48)) = true then
  kf_lt (kf_wi q_1 (kf_rf v0 48) (Int32.toNatClampNeg 0) 0) fun σ_3 =>
  if kf_ix 5 (kf_ln (kf_rf v0 48)) = true then
  kf_lt (kf_wi σ_3 (kf_rf v0 48) (Int32.toNatClampNeg 5) 0) fun σ_5 =>
  (f_X12_unlikeTo v0 v1 v2 σ_5).bind fun q_6 =>
  if kf_ix 6 (kf_ln (kf_rf v0 48)) = true then
  kf_lt (kf_wi q_6.2 (kf_rf v0 48) (Int32.toNatClampNeg 6) q_6.1) fun σ_8 =>
  if kf_ix 7 (kf_ln (kf_rf v0 48)) = true then
  kf_lt (kf_wi σ_8 (kf_rf v0 48) (Int32.toNatClampNeg 7) v2) fun σ_10 =>
  (f_X12_lawTells v0 2 1 σ_10).bind fun q_11 =>
  (f_X12_within q_11.1 0 99 q_11.2).bind fun q_12 =>
  some (q_12.1, q_12.2)
  else none
  else none
  else none
  else none
set_option maxRecDepth 100000 in
set_option maxHeartbeats 4000000 in
theorem c_X12_paysOf {G : kf_G} (hty : kf_wt G) (v0 : Nat) (v1 : Int32) (v2 : Int32) (k_v0 : kf_kd G v0 = 13) (σ : kf_St) {q : (Int32 × kf_St)} (h : f_X12_paysOf v0 v1 v2 σ = some q) : kf_Ct (3) yX12_paysOf cX12_paysOf 3 (some .int) G [.ref (kf_ad G v0), .int v1, .int v2] σ (some (.int q.1)) q.2 := by
  refine kf_Ct.of hty.1 (lv := [(0, .ref (kf_ad G v0)), (1, .int v1), (2, .int v2)]) (by decide +kernel) rfl (Nat.le_of_ble_eq_true rfl) (fun X E => ?_)
  unfold f_X12_paysOf at h
  refine wa_aload_n 0 rfl E d_X12_paysOf_0 ?_
  refine wa_iload_n 1 rfl E d_X12_paysOf_1 ?_
  refine wa_iconst 0 ic_0 E d_X12_paysOf_2 ?_
  obtain ⟨q_1, hq_1, h⟩ := kf_bd h
  refine wa_callV (st2 := []) (c_X12_looks hty v0 v1 0 k_v0 σ hq_1) mv_X12_looks ml_X12_348 k_v0 rfl (Nat.le_of_ble_eq_true rfl) rfl (Nat.le_of_ble_eq_true rfl) E d_X12_paysOf_3 rfl ?_
  refine wa_aload_n 0 rfl E d_X12_paysOf_6 ?_
  refine wa_getR fl_X12_113 k_v0 rfl E d_X12_paysOf_7 ?_
  refine wa_iconst 0 ic_0 E d_X12_paysOf_10 ?_
  refine wa_iconst 0 ic_0 E d_X12_paysOf_11 ?_
  obtain ⟨g_2, h⟩ := kf_gd h
  obtain ⟨σ_3, eσ_3, h⟩ := kf_lte h
  refine wa_iast (kf_wtf hty 48 49 k_v0 (by decide) rfl) g_2 E d_X12_paysOf_12 eσ_3 ?_
  refine wa_aload_n 0 rfl E d_X12_paysOf_13 ?_
  refine wa_getR fl_X12_113 k_v0 rfl E d_X12_paysOf_14 ?_
  refine wa_iconst 5 ic_5 E d_X12_paysOf_17 ?_
  refine wa_iconst 0 ic_0 E d_X12_paysOf_18 ?_
  obtain ⟨g_4, h⟩ := kf_gd h
  obtain ⟨σ_5, eσ_5, h⟩ := kf_lte h
  refine wa_iast (kf_wtf hty 48 49 k_v0 (by decide) rfl) g_4 E d_X12_paysOf_19 eσ_5 ?_
  refine wa_aload_n 0 rfl E d_X12_paysOf_20 ?_
  refine wa_getR fl_X12_113 k_v0 rfl E d_X12_paysOf_21 ?_
  refine wa_bipush 6 bp_6 E d_X12_paysOf_24 ?_
  refine wa_aload_n 0 rfl E d_X12_paysOf_26 ?_
  refine wa_iload_n 1 rfl E d_X12_paysOf_27 ?_
  refine wa_iload_n 2 rfl E d_X12_paysOf_28 ?_
  obtain ⟨q_6, hq_6, h⟩ := kf_bd h
  refine wa_callV (st2 := [.int q_6.1, .int 6, .ref (kf_ad G (kf_rf v0 48))]) (c_X12_unlikeTo hty v0 v1 v2 k_v0 σ_5 hq_6) mv_X12_unlikeTo ml_X12_342 k_v0 rfl (Nat.le_of_ble_eq_true rfl) rfl (Nat.le_of_ble_eq_true rfl) E d_X12_paysOf_29 rfl ?_
  obtain ⟨g_7, h⟩ := kf_gd h
  obtain ⟨σ_8, eσ_8, h⟩ := kf_lte h
  refine wa_iast (kf_wtf hty 48 49 k_v0 (by decide) rfl) g_7 E d_X12_paysOf_32 eσ_8 ?_
  refine wa_aload_n 0 rfl E d_X12_paysOf_33 ?_
  refine wa_getR fl_X12_113 k_v0 rfl E d_X12_paysOf_34 ?_
  refine wa_bipush 7 bp_7 E d_X12_paysOf_37 ?_
  refine wa_iload_n 2 rfl E d_X12_paysOf_39 ?_
  obtain ⟨g_9, h⟩ := kf_gd h
  obtain ⟨σ_10, eσ_10, h⟩ := kf_lte h
  refine wa_iast (kf_wtf hty 48 49 k_v0 (by decide) rfl) g_9 E d_X12_paysOf_40 eσ_10 ?_
  refine wa_aload_n 0 rfl E d_X12_paysOf_41 ?_
  refine wa_iconst 2 ic_2 E d_X12_paysOf_42 ?_
  refine wa_iconst 1 ic_1 E d_X12_paysOf_43 ?_
  obtain ⟨q_11, hq_11, h⟩ := kf_bd h
  refine wa_callV (st2 := [.int q_11.1]) (c_X12_lawTells hty v0 2 1 k_v0 σ_10 hq_11) mv_X12_lawTells ml_X12_351 k_v0 rfl (Nat.le_of_ble_eq_true rfl) rfl (Nat.le_of_ble_eq_true rfl) E d_X12_paysOf_44 rfl ?_
  refine wa_iconst 0 ic_0 E d_X12_paysOf_47 ?_
  refine wa_bipush 99 bp_99 E d_X12_paysOf_48 ?_
  obtain ⟨q_12, hq_12, h⟩ := kf_bd h
  refine wa_callS (st2 := [.int q_12.1]) (c_X12_within hty q_11.1 0 99 q_11.2 hq_12) mt_X12_within ml_X12_354 rfl (Nat.le_of_ble_eq_true rfl) rfl (Nat.le_of_ble_eq_true rfl) E d_X12_paysOf_50 rfl ?_
  cases h
  exact wa_iret E d_X12_paysOf_53
/-! X12_wearsOf -/
theorem d_X12_wearsOf_0 : kf_dq cX12_wearsOf 0 1 1 (.aload_n 0) := ⟨by decide +kernel, rfl⟩
theorem d_X12_wearsOf_1 : kf_dq cX12_wearsOf 1 2 1 (.iload_n 1) := ⟨by decide +kernel, rfl⟩
theorem d_X12_wearsOf_2 : kf_dq cX12_wearsOf 2 3 1 (.iload_n 2) := ⟨by decide +kernel, rfl⟩
theorem d_X12_wearsOf_3 : kf_dq cX12_wearsOf 3 6 3 (.invokevirtual 348) := ⟨by decide +kernel, rfl⟩
theorem d_X12_wearsOf_6 : kf_dq cX12_wearsOf 6 7 1 (.aload_n 0) := ⟨by decide +kernel, rfl⟩
theorem d_X12_wearsOf_7 : kf_dq cX12_wearsOf 7 10 3 (.getfield 122) := ⟨by decide +kernel, rfl⟩
theorem d_X12_wearsOf_10 : kf_dq cX12_wearsOf 10 11 1 (.iconst 4) := ⟨by decide +kernel, rfl⟩
theorem d_X12_wearsOf_11 : kf_dq cX12_wearsOf 11 12 1 (.iload_n 1) := ⟨by decide +kernel, rfl⟩
theorem d_X12_wearsOf_12 : kf_dq cX12_wearsOf 12 13 1 (.imul) := ⟨by decide +kernel, rfl⟩
theorem d_X12_wearsOf_13 : kf_dq cX12_wearsOf 13 14 1 (.iload_n 2) := ⟨by decide +kernel, rfl⟩
theorem d_X12_wearsOf_14 : kf_dq cX12_wearsOf 14 15 1 (.iadd) := ⟨by decide +kernel, rfl⟩
theorem d_X12_wearsOf_15 : kf_dq cX12_wearsOf 15 16 1 (.iaload) := ⟨by decide +kernel, rfl⟩
theorem d_X12_wearsOf_16 : kf_dq cX12_wearsOf 16 17 1 (.aload_n 0) := ⟨by decide +kernel, rfl⟩
theorem d_X12_wearsOf_17 : kf_dq cX12_wearsOf 17 18 1 (.iload_n 1) := ⟨by decide +kernel, rfl⟩
theorem d_X12_wearsOf_18 : kf_dq cX12_wearsOf 18 19 1 (.iload_n 2) := ⟨by decide +kernel, rfl⟩
theorem d_X12_wearsOf_19 : kf_dq cX12_wearsOf 19 22 3 (.invokevirtual 339) := ⟨by decide +kernel, rfl⟩
theorem d_X12_wearsOf_22 : kf_dq cX12_wearsOf 22 25 3 (.invokestatic 336) := ⟨by decide +kernel, rfl⟩
theorem d_X12_wearsOf_25 : kf_dq cX12_wearsOf 25 26 1 (.istore_n 3) := ⟨by decide +kernel, rfl⟩
theorem d_X12_wearsOf_26 : kf_dq cX12_wearsOf 26 27 1 (.aload_n 0) := ⟨by decide +kernel, rfl⟩
theorem d_X12_wearsOf_27 : kf_dq cX12_wearsOf 27 30 3 (.getfield 113) := ⟨by decide +kernel, rfl⟩
theorem d_X12_wearsOf_30 : kf_dq cX12_wearsOf 30 31 1 (.iconst 0) := ⟨by decide +kernel, rfl⟩
theorem d_X12_wearsOf_31 : kf_dq cX12_wearsOf 31 32 1 (.iload_n 3) := ⟨by decide +kernel, rfl⟩
theorem d_X12_wearsOf_32 : kf_dq cX12_wearsOf 32 33 1 (.iastore) := ⟨by decide +kernel, rfl⟩
theorem d_X12_wearsOf_33 : kf_dq cX12_wearsOf 33 34 1 (.aload_n 0) := ⟨by decide +kernel, rfl⟩
theorem d_X12_wearsOf_34 : kf_dq cX12_wearsOf 34 37 3 (.getfield 113) := ⟨by decide +kernel, rfl⟩
theorem d_X12_wearsOf_37 : kf_dq cX12_wearsOf 37 39 2 (.bipush 6) := ⟨by decide +kernel, rfl⟩
theorem d_X12_wearsOf_39 : kf_dq cX12_wearsOf 39 40 1 (.aload_n 0) := ⟨by decide +kernel, rfl⟩
theorem d_X12_wearsOf_40 : kf_dq cX12_wearsOf 40 41 1 (.iload_n 1) := ⟨by decide +kernel, rfl⟩
theorem d_X12_wearsOf_41 : kf_dq cX12_wearsOf 41 44 3 (.invokevirtual 357) := ⟨by decide +kernel, rfl⟩
theorem d_X12_wearsOf_44 : kf_dq cX12_wearsOf 44 45 1 (.iastore) := ⟨by decide +kernel, rfl⟩
theorem d_X12_wearsOf_45 : kf_dq cX12_wearsOf 45 46 1 (.aload_n 0) := ⟨by decide +kernel, rfl⟩
theorem d_X12_wearsOf_46 : kf_dq cX12_wearsOf 46 49 3 (.getfield 113) := ⟨by decide +kernel, rfl⟩
theorem d_X12_wearsOf_49 : kf_dq cX12_wearsOf 49 51 2 (.bipush 7) := ⟨by decide +kernel, rfl⟩
theorem d_X12_wearsOf_51 : kf_dq cX12_wearsOf 51 52 1 (.iload_n 1) := ⟨by decide +kernel, rfl⟩
theorem d_X12_wearsOf_52 : kf_dq cX12_wearsOf 52 53 1 (.iastore) := ⟨by decide +kernel, rfl⟩
theorem d_X12_wearsOf_53 : kf_dq cX12_wearsOf 53 54 1 (.aload_n 0) := ⟨by decide +kernel, rfl⟩
theorem d_X12_wearsOf_54 : kf_dq cX12_wearsOf 54 55 1 (.iconst 1) := ⟨by decide +kernel, rfl⟩
theorem d_X12_wearsOf_55 : kf_dq cX12_wearsOf 55 56 1 (.iconst 0) := ⟨by decide +kernel, rfl⟩
theorem d_X12_wearsOf_56 : kf_dq cX12_wearsOf 56 59 3 (.invokevirtual 351) := ⟨by decide +kernel, rfl⟩
theorem d_X12_wearsOf_59 : kf_dq cX12_wearsOf 59 60 1 (.iconst 0) := ⟨by decide +kernel, rfl⟩
theorem d_X12_wearsOf_60 : kf_dq cX12_wearsOf 60 61 1 (.iload_n 3) := ⟨by decide +kernel, rfl⟩
theorem d_X12_wearsOf_61 : kf_dq cX12_wearsOf 61 64 3 (.invokestatic 354) := ⟨by decide +kernel, rfl⟩
theorem d_X12_wearsOf_64 : kf_dq cX12_wearsOf 64 65 1 (.ireturn) := ⟨by decide +kernel, rfl⟩
def f_X12_wearsOf (v0 : Nat) (v1 : Int32) (v2 : Int32) (σ : kf_St) : Option (Int32 × kf_St) :=
  (f_X12_looks v0 v1 v2 σ).bind fun q_1 =>
  if kf_ix ((4 * v1) + v2) (kf_ln (kf_rf v0 52)) = true then
  (f_X12_firstPart v0 v1 v2 q_1).bind fun q_3 =>
  (f_X12_off (q_1.1 (kf_rf v0 52) (Int32.toNatClampNeg ((4 * v1) + v2))) q_3.1 q_3.2).bind fun q_4 =>
  if kf_ix 0 (kf_ln (kf_rf v0 48)) = true then
  kf_lt (kf_wi q_4.2 (kf_rf v0 48) (Int32.toNatClampNeg 0) q_4.1) fun σ_6 =>
  (f_X12_unlikeFirst v0 v1 σ_6).bind fun q_7 =>
  if kf_ix 6 (kf_ln (kf_rf v0 48)) = true then
  kf_lt (kf_wi q_7.2 (kf_rf v0 48) (Int32.toNatClampNeg 6) q_7.1) fun σ_9 =>
  if kf_ix 7 (kf_ln (kf_rf v0 48)) = true then
  kf_lt (kf_wi σ_9 (kf_rf v0 48) (Int32.toNatClampNeg 7) v1) fun σ_11 =>
  (f_X12_lawTells v0 1 0 σ_11).bind fun q_12 =>
  (f_X12_within q_12.1 0 q_4.1 q_12.2).bind fun q_13 =>
  some (q_13.1, q_13.2)
  else none
  else none
  else none
  else none
set_option maxRecDepth 100000 in
set_option maxHeartbeats 4000000 in
theorem c_X12_wearsOf {G : kf_G} (hty : kf_wt G) (v0 : Nat) (v1 : Int32) (v2 : Int32) (k_v0 : kf_kd G v0 = 13) (σ : kf_St) {q : (Int32 × kf_St)} (h : f_X12_wearsOf v0 v1 v2 σ = some q) : kf_Ct (3) yX12_wearsOf cX12_wearsOf 4 (some .int) G [.ref (kf_ad G v0), .int v1, .int v2] σ (some (.int q.1)) q.2 := by
  refine kf_Ct.of hty.1 (lv := [(0, .ref (kf_ad G v0)), (1, .int v1), (2, .int v2)]) (by decide +kernel) rfl (Nat.le_of_ble_eq_true rfl) (fun X E => ?_)
  unfold f_X12_wearsOf at h
  refine wa_aload_n 0 rfl E d_X12_wearsOf_0 ?_
  refine wa_iload_n 1 rfl E d_X12_wearsOf_1 ?_
  refine wa_iload_n 2 rfl E d_X12_wearsOf_2 ?_
  obtain ⟨q_1, hq_1, h⟩ := kf_bd h
  refine wa_callV (st2 := []) (c_X12_looks hty v0 v1 v2 k_v0 σ hq_1) mv_X12_looks ml_X12_348 k_v0 rfl (Nat.le_of_ble_eq_true rfl) rfl (Nat.le_of_ble_eq_true rfl) E d_X12_wearsOf_3 rfl ?_
  refine wa_aload_n 0 rfl E d_X12_wearsOf_6 ?_
  refine wa_getR fl_X12_122 k_v0 rfl E d_X12_wearsOf_7 ?_
  refine wa_iconst 4 ic_4 E d_X12_wearsOf_10 ?_
  refine wa_iload_n 1 rfl E d_X12_wearsOf_11 ?_
  refine wa_imul E d_X12_wearsOf_12 ?_
  refine wa_iload_n 2 rfl E d_X12_wearsOf_13 ?_
  refine wa_iadd E d_X12_wearsOf_14 ?_
  obtain ⟨g_2, h⟩ := kf_gd h
  refine wa_iald (kf_wtf hty 52 49 k_v0 (by decide) rfl) g_2 E d_X12_wearsOf_15 ?_
  refine wa_aload_n 0 rfl E d_X12_wearsOf_16 ?_
  refine wa_iload_n 1 rfl E d_X12_wearsOf_17 ?_
  refine wa_iload_n 2 rfl E d_X12_wearsOf_18 ?_
  obtain ⟨q_3, hq_3, h⟩ := kf_bd h
  refine wa_callV (st2 := [.int q_3.1, .int (q_1.1 (kf_rf v0 52) (Int32.toNatClampNeg ((4 * v1) + v2)))]) (c_X12_firstPart hty v0 v1 v2 k_v0 q_1 hq_3) mv_X12_firstPart ml_X12_339 k_v0 rfl (Nat.le_of_ble_eq_true rfl) rfl (Nat.le_of_ble_eq_true rfl) E d_X12_wearsOf_19 rfl ?_
  obtain ⟨q_4, hq_4, h⟩ := kf_bd h
  refine wa_callS (st2 := [.int q_4.1]) (c_X12_off hty (q_1.1 (kf_rf v0 52) (Int32.toNatClampNeg ((4 * v1) + v2))) q_3.1 q_3.2 hq_4) mt_X12_off ml_X12_336 rfl (Nat.le_of_ble_eq_true rfl) rfl (Nat.le_of_ble_eq_true rfl) E d_X12_wearsOf_22 rfl ?_
  refine wa_istore_n (lv' := [(3, .int q_4.1), (0, .ref (kf_ad G v0)), (1, .int v1), (2, .int v2)]) rfl (by decide) rfl E d_X12_wearsOf_25 ?_
  refine wa_aload_n 1 rfl E d_X12_wearsOf_26 ?_
  refine wa_getR fl_X12_113 k_v0 rfl E d_X12_wearsOf_27 ?_
  refine wa_iconst 0 ic_0 E d_X12_wearsOf_30 ?_
  refine wa_iload_n 0 rfl E d_X12_wearsOf_31 ?_
  obtain ⟨g_5, h⟩ := kf_gd h
  obtain ⟨σ_6, eσ_6, h⟩ := kf_lte h
  refine wa_iast (kf_wtf hty 48 49 k_v0 (by decide) rfl) g_5 E d_X12_wearsOf_32 eσ_6 ?_
  refine wa_aload_n 1 rfl E d_X12_wearsOf_33 ?_
  refine wa_getR fl_X12_113 k_v0 rfl E d_X12_wearsOf_34 ?_
  refine wa_bipush 6 bp_6 E d_X12_wearsOf_37 ?_
  refine wa_aload_n 1 rfl E d_X12_wearsOf_39 ?_
  refine wa_iload_n 2 rfl E d_X12_wearsOf_40 ?_
  obtain ⟨q_7, hq_7, h⟩ := kf_bd h
  refine wa_callV (st2 := [.int q_7.1, .int 6, .ref (kf_ad G (kf_rf v0 48))]) (c_X12_unlikeFirst hty v0 v1 k_v0 σ_6 hq_7) mv_X12_unlikeFirst ml_X12_357 k_v0 rfl (Nat.le_of_ble_eq_true rfl) rfl (Nat.le_of_ble_eq_true rfl) E d_X12_wearsOf_41 rfl ?_
  obtain ⟨g_8, h⟩ := kf_gd h
  obtain ⟨σ_9, eσ_9, h⟩ := kf_lte h
  refine wa_iast (kf_wtf hty 48 49 k_v0 (by decide) rfl) g_8 E d_X12_wearsOf_44 eσ_9 ?_
  refine wa_aload_n 1 rfl E d_X12_wearsOf_45 ?_
  refine wa_getR fl_X12_113 k_v0 rfl E d_X12_wearsOf_46 ?_
  refine wa_bipush 7 bp_7 E d_X12_wearsOf_49 ?_
  refine wa_iload_n 2 rfl E d_X12_wearsOf_51 ?_
  obtain ⟨g_10, h⟩ := kf_gd h
  obtain ⟨σ_11, eσ_11, h⟩ := kf_lte h
  refine wa_iast (kf_wtf hty 48 49 k_v0 (by decide) rfl) g_10 E d_X12_wearsOf_52 eσ_11 ?_
  refine wa_aload_n 1 rfl E d_X12_wearsOf_53 ?_
  refine wa_iconst 1 ic_1 E d_X12_wearsOf_54 ?_
  refine wa_iconst 0 ic_0 E d_X12_wearsOf_55 ?_
  obtain ⟨q_12, hq_12, h⟩ := kf_bd h
  refine wa_callV (st2 := [.int q_12.1]) (c_X12_lawTells hty v0 1 0 k_v0 σ_11 hq_12) mv_X12_lawTells ml_X12_351 k_v0 rfl (Nat.le_of_ble_eq_true rfl) rfl (Nat.le_of_ble_eq_true rfl) E d_X12_wearsOf_56 rfl ?_
  refine wa_iconst 0 ic_0 E d_X12_wearsOf_59 ?_
  refine wa_iload_n 0 rfl E d_X12_wearsOf_60 ?_
  obtain ⟨q_13, hq_13, h⟩ := kf_bd h
  refine wa_callS (st2 := [.int q_13.1]) (c_X12_within hty q_12.1 0 q_4.1 q_12.2 hq_13) mt_X12_within ml_X12_354 rfl (Nat.le_of_ble_eq_true rfl) rfl (Nat.le_of_ble_eq_true rfl) E d_X12_wearsOf_61 rfl ?_
  cases h
  exact wa_iret E d_X12_wearsOf_64
/-! X12_towardsBy -/
theorem d_X12_towardsBy_0 : kf_dq cX12_towardsBy 0 1 1 (.iload_n 0) := ⟨by decide +kernel, rfl⟩
theorem d_X12_towardsBy_1 : kf_dq cX12_towardsBy 1 2 1 (.iload_n 1) := ⟨by decide +kernel, rfl⟩
theorem d_X12_towardsBy_2 : kf_dj cX12_towardsBy 2 5 11 (.if_icmp .ge) := ⟨9, by decide +kernel, rfl, by decide⟩
theorem d_X12_towardsBy_5 : kf_dq cX12_towardsBy 5 6 1 (.iload_n 0) := ⟨by decide +kernel, rfl⟩
theorem d_X12_towardsBy_6 : kf_dq cX12_towardsBy 6 7 1 (.iload_n 2) := ⟨by decide +kernel, rfl⟩
theorem d_X12_towardsBy_7 : kf_dq cX12_towardsBy 7 8 1 (.iadd) := ⟨by decide +kernel, rfl⟩
theorem d_X12_towardsBy_8 : kf_dj cX12_towardsBy 8 11 14 .goto := ⟨6, by decide +kernel, rfl, by decide⟩
theorem d_X12_towardsBy_11 : kf_dq cX12_towardsBy 11 12 1 (.iload_n 0) := ⟨by decide +kernel, rfl⟩
theorem d_X12_towardsBy_12 : kf_dq cX12_towardsBy 12 13 1 (.iload_n 2) := ⟨by decide +kernel, rfl⟩
theorem d_X12_towardsBy_13 : kf_dq cX12_towardsBy 13 14 1 (.isub) := ⟨by decide +kernel, rfl⟩
theorem d_X12_towardsBy_14 : kf_dq cX12_towardsBy 14 15 1 (.ireturn) := ⟨by decide +kernel, rfl⟩
def f_X12_towardsBy (v0 : Int32) (v1 : Int32) (v2 : Int32) (σ : kf_St) : Option (Int32 × kf_St) :=
  if v1 ≤ v0 then
    some ((v0 - v2), σ)
  else
    some ((v0 + v2), σ)
set_option maxRecDepth 100000 in
set_option maxHeartbeats 4000000 in
theorem c_X12_towardsBy {G : kf_G} (hty : kf_wt G) (v0 : Int32) (v1 : Int32) (v2 : Int32) (σ : kf_St) {q : (Int32 × kf_St)} (h : f_X12_towardsBy v0 v1 v2 σ = some q) : kf_Ct (1) yX12_towardsBy cX12_towardsBy 3 (some .int) G [.int v0, .int v1, .int v2] σ (some (.int q.1)) q.2 := by
  refine kf_Ct.of hty.1 (lv := [(0, .int v0), (1, .int v1), (2, .int v2)]) (by decide +kernel) rfl (Nat.le_of_ble_eq_true rfl) (fun X E => ?_)
  unfold f_X12_towardsBy at h
  refine wa_iload_n 0 rfl E d_X12_towardsBy_0 ?_
  refine wa_iload_n 1 rfl E d_X12_towardsBy_1 ?_
  refine wa_icmp_ge E d_X12_towardsBy_2 (fun c_1 => ?_) (fun c_1 => ?_)
  · replace h := kf_ift c_1 h
    refine wa_iload_n 0 rfl E d_X12_towardsBy_11 ?_
    refine wa_iload_n 2 rfl E d_X12_towardsBy_12 ?_
    refine wa_isub E d_X12_towardsBy_13 ?_
    cases h
    exact wa_iret E d_X12_towardsBy_14
  · replace h := kf_iff c_1 h
    refine wa_iload_n 0 rfl E d_X12_towardsBy_5 ?_
    refine wa_iload_n 2 rfl E d_X12_towardsBy_6 ?_
    refine wa_iadd E d_X12_towardsBy_7 ?_
    refine wa_goto E d_X12_towardsBy_8 ?_
    cases h
    exact wa_iret E d_X12_towardsBy_14
/-! X12_lifted -/
theorem d_X12_lifted_0 : kf_dq cX12_lifted 0 1 1 (.aload_n 0) := ⟨by decide +kernel, rfl⟩
theorem d_X12_lifted_1 : kf_dq cX12_lifted 1 2 1 (.iload_n 1) := ⟨by decide +kernel, rfl⟩
theorem d_X12_lifted_2 : kf_dq cX12_lifted 2 3 1 (.iload_n 2) := ⟨by decide +kernel, rfl⟩
theorem d_X12_lifted_3 : kf_dq cX12_lifted 3 6 3 (.invokevirtual 360) := ⟨by decide +kernel, rfl⟩
theorem d_X12_lifted_6 : kf_dq cX12_lifted 6 7 1 (.istore_n 3) := ⟨by decide +kernel, rfl⟩
theorem d_X12_lifted_7 : kf_dq cX12_lifted 7 8 1 (.iconst 0) := ⟨by decide +kernel, rfl⟩
theorem d_X12_lifted_8 : kf_dq cX12_lifted 8 10 2 (.istore 4) := ⟨by decide +kernel, rfl⟩
theorem d_X12_lifted_10 : kf_dq cX12_lifted 10 12 2 (.iload 4) := ⟨by decide +kernel, rfl⟩
theorem d_X12_lifted_12 : kf_dq cX12_lifted 12 13 1 (.iconst 4) := ⟨by decide +kernel, rfl⟩
theorem d_X12_lifted_13 : kf_dj cX12_lifted 13 16 37 (.if_icmp .ge) := ⟨24, by decide +kernel, rfl, by decide⟩
theorem d_X12_lifted_16 : kf_dq cX12_lifted 16 17 1 (.aload_n 0) := ⟨by decide +kernel, rfl⟩
theorem d_X12_lifted_17 : kf_dq cX12_lifted 17 20 3 (.getfield 125) := ⟨by decide +kernel, rfl⟩
theorem d_X12_lifted_20 : kf_dq cX12_lifted 20 22 2 (.iload 4) := ⟨by decide +kernel, rfl⟩
theorem d_X12_lifted_22 : kf_dq cX12_lifted 22 23 1 (.aload_n 0) := ⟨by decide +kernel, rfl⟩
theorem d_X12_lifted_23 : kf_dq cX12_lifted 23 24 1 (.iload_n 1) := ⟨by decide +kernel, rfl⟩
theorem d_X12_lifted_24 : kf_dq cX12_lifted 24 25 1 (.iload_n 2) := ⟨by decide +kernel, rfl⟩
theorem d_X12_lifted_25 : kf_dq cX12_lifted 25 27 2 (.iload 4) := ⟨by decide +kernel, rfl⟩
theorem d_X12_lifted_27 : kf_dq cX12_lifted 27 30 3 (.invokevirtual 363) := ⟨by decide +kernel, rfl⟩
theorem d_X12_lifted_30 : kf_dq cX12_lifted 30 31 1 (.iastore) := ⟨by decide +kernel, rfl⟩
theorem d_X12_lifted_31 : kf_dq cX12_lifted 31 34 3 (.iinc 4 1) := ⟨by decide +kernel, rfl⟩
theorem d_X12_lifted_34 : kf_dj cX12_lifted 34 37 10 .goto := ⟨(-24), by decide +kernel, rfl, by decide⟩
theorem d_X12_lifted_37 : kf_dq cX12_lifted 37 38 1 (.iconst 0) := ⟨by decide +kernel, rfl⟩
theorem d_X12_lifted_38 : kf_dq cX12_lifted 38 40 2 (.istore 4) := ⟨by decide +kernel, rfl⟩
theorem d_X12_lifted_40 : kf_dq cX12_lifted 40 42 2 (.iload 4) := ⟨by decide +kernel, rfl⟩
theorem d_X12_lifted_42 : kf_dq cX12_lifted 42 43 1 (.iconst 4) := ⟨by decide +kernel, rfl⟩
theorem d_X12_lifted_43 : kf_dj cX12_lifted 43 46 91 (.if_icmp .ge) := ⟨48, by decide +kernel, rfl, by decide⟩
theorem d_X12_lifted_46 : kf_dq cX12_lifted 46 47 1 (.aload_n 0) := ⟨by decide +kernel, rfl⟩
theorem d_X12_lifted_47 : kf_dq cX12_lifted 47 50 3 (.getfield 122) := ⟨by decide +kernel, rfl⟩
theorem d_X12_lifted_50 : kf_dq cX12_lifted 50 51 1 (.iconst 4) := ⟨by decide +kernel, rfl⟩
theorem d_X12_lifted_51 : kf_dq cX12_lifted 51 52 1 (.iload_n 1) := ⟨by decide +kernel, rfl⟩
theorem d_X12_lifted_52 : kf_dq cX12_lifted 52 53 1 (.imul) := ⟨by decide +kernel, rfl⟩
theorem d_X12_lifted_53 : kf_dq cX12_lifted 53 55 2 (.iload 4) := ⟨by decide +kernel, rfl⟩
theorem d_X12_lifted_55 : kf_dq cX12_lifted 55 56 1 (.iadd) := ⟨by decide +kernel, rfl⟩
theorem d_X12_lifted_56 : kf_dq cX12_lifted 56 57 1 (.aload_n 0) := ⟨by decide +kernel, rfl⟩
theorem d_X12_lifted_57 : kf_dq cX12_lifted 57 60 3 (.getfield 122) := ⟨by decide +kernel, rfl⟩
theorem d_X12_lifted_60 : kf_dq cX12_lifted 60 61 1 (.iconst 4) := ⟨by decide +kernel, rfl⟩
theorem d_X12_lifted_61 : kf_dq cX12_lifted 61 62 1 (.iload_n 1) := ⟨by decide +kernel, rfl⟩
theorem d_X12_lifted_62 : kf_dq cX12_lifted 62 63 1 (.imul) := ⟨by decide +kernel, rfl⟩
theorem d_X12_lifted_63 : kf_dq cX12_lifted 63 65 2 (.iload 4) := ⟨by decide +kernel, rfl⟩
theorem d_X12_lifted_65 : kf_dq cX12_lifted 65 66 1 (.iadd) := ⟨by decide +kernel, rfl⟩
theorem d_X12_lifted_66 : kf_dq cX12_lifted 66 67 1 (.iaload) := ⟨by decide +kernel, rfl⟩
theorem d_X12_lifted_67 : kf_dq cX12_lifted 67 68 1 (.aload_n 0) := ⟨by decide +kernel, rfl⟩
theorem d_X12_lifted_68 : kf_dq cX12_lifted 68 69 1 (.iload_n 2) := ⟨by decide +kernel, rfl⟩
theorem d_X12_lifted_69 : kf_dq cX12_lifted 69 71 2 (.iload 4) := ⟨by decide +kernel, rfl⟩
theorem d_X12_lifted_71 : kf_dq cX12_lifted 71 74 3 (.invokevirtual 333) := ⟨by decide +kernel, rfl⟩
theorem d_X12_lifted_74 : kf_dq cX12_lifted 74 75 1 (.aload_n 0) := ⟨by decide +kernel, rfl⟩
theorem d_X12_lifted_75 : kf_dq cX12_lifted 75 78 3 (.getfield 125) := ⟨by decide +kernel, rfl⟩
theorem d_X12_lifted_78 : kf_dq cX12_lifted 78 80 2 (.iload 4) := ⟨by decide +kernel, rfl⟩
theorem d_X12_lifted_80 : kf_dq cX12_lifted 80 81 1 (.iaload) := ⟨by decide +kernel, rfl⟩
theorem d_X12_lifted_81 : kf_dq cX12_lifted 81 84 3 (.invokestatic 366) := ⟨by decide +kernel, rfl⟩
theorem d_X12_lifted_84 : kf_dq cX12_lifted 84 85 1 (.iastore) := ⟨by decide +kernel, rfl⟩
theorem d_X12_lifted_85 : kf_dq cX12_lifted 85 88 3 (.iinc 4 1) := ⟨by decide +kernel, rfl⟩
theorem d_X12_lifted_88 : kf_dj cX12_lifted 88 91 40 .goto := ⟨(-48), by decide +kernel, rfl, by decide⟩
theorem d_X12_lifted_91 : kf_dq cX12_lifted 91 92 1 (.aload_n 0) := ⟨by decide +kernel, rfl⟩
theorem d_X12_lifted_92 : kf_dq cX12_lifted 92 95 3 (.getfield 122) := ⟨by decide +kernel, rfl⟩
theorem d_X12_lifted_95 : kf_dq cX12_lifted 95 97 2 (.bipush 42) := ⟨by decide +kernel, rfl⟩
theorem d_X12_lifted_97 : kf_dq cX12_lifted 97 98 1 (.iload_n 1) := ⟨by decide +kernel, rfl⟩
theorem d_X12_lifted_98 : kf_dq cX12_lifted 98 99 1 (.iadd) := ⟨by decide +kernel, rfl⟩
theorem d_X12_lifted_99 : kf_dq cX12_lifted 99 100 1 (.aload_n 0) := ⟨by decide +kernel, rfl⟩
theorem d_X12_lifted_100 : kf_dq cX12_lifted 100 103 3 (.getfield 122) := ⟨by decide +kernel, rfl⟩
theorem d_X12_lifted_103 : kf_dq cX12_lifted 103 105 2 (.bipush 42) := ⟨by decide +kernel, rfl⟩
theorem d_X12_lifted_105 : kf_dq cX12_lifted 105 106 1 (.iload_n 1) := ⟨by decide +kernel, rfl⟩
theorem d_X12_lifted_106 : kf_dq cX12_lifted 106 107 1 (.iadd) := ⟨by decide +kernel, rfl⟩
theorem d_X12_lifted_107 : kf_dq cX12_lifted 107 108 1 (.iaload) := ⟨by decide +kernel, rfl⟩
theorem d_X12_lifted_108 : kf_dq cX12_lifted 108 109 1 (.iload_n 3) := ⟨by decide +kernel, rfl⟩
theorem d_X12_lifted_109 : kf_dq cX12_lifted 109 110 1 (.iadd) := ⟨by decide +kernel, rfl⟩
theorem d_X12_lifted_110 : kf_dq cX12_lifted 110 111 1 (.iconst 0) := ⟨by decide +kernel, rfl⟩
theorem d_X12_lifted_111 : kf_dq cX12_lifted 111 114 3 (.ldc_w 369) := ⟨by decide +kernel, rfl⟩
theorem d_X12_lifted_114 : kf_dq cX12_lifted 114 117 3 (.invokestatic 354) := ⟨by decide +kernel, rfl⟩
theorem d_X12_lifted_117 : kf_dq cX12_lifted 117 118 1 (.iastore) := ⟨by decide +kernel, rfl⟩
theorem d_X12_lifted_118 : kf_dq cX12_lifted 118 119 1 (.aload_n 0) := ⟨by decide +kernel, rfl⟩
theorem d_X12_lifted_119 : kf_dq cX12_lifted 119 122 3 (.getfield 122) := ⟨by decide +kernel, rfl⟩
theorem d_X12_lifted_122 : kf_dq cX12_lifted 122 124 2 (.bipush 24) := ⟨by decide +kernel, rfl⟩
theorem d_X12_lifted_124 : kf_dq cX12_lifted 124 125 1 (.iload_n 1) := ⟨by decide +kernel, rfl⟩
theorem d_X12_lifted_125 : kf_dq cX12_lifted 125 126 1 (.iadd) := ⟨by decide +kernel, rfl⟩
theorem d_X12_lifted_126 : kf_dq cX12_lifted 126 127 1 (.dup2) := ⟨by decide +kernel, rfl⟩
theorem d_X12_lifted_127 : kf_dq cX12_lifted 127 128 1 (.iaload) := ⟨by decide +kernel, rfl⟩
theorem d_X12_lifted_128 : kf_dq cX12_lifted 128 129 1 (.iconst 1) := ⟨by decide +kernel, rfl⟩
theorem d_X12_lifted_129 : kf_dq cX12_lifted 129 130 1 (.iadd) := ⟨by decide +kernel, rfl⟩
theorem d_X12_lifted_130 : kf_dq cX12_lifted 130 131 1 (.iastore) := ⟨by decide +kernel, rfl⟩
theorem d_X12_lifted_131 : kf_dq cX12_lifted 131 132 1 (.aload_n 0) := ⟨by decide +kernel, rfl⟩
theorem d_X12_lifted_132 : kf_dq cX12_lifted 132 135 3 (.getfield 122) := ⟨by decide +kernel, rfl⟩
theorem d_X12_lifted_135 : kf_dq cX12_lifted 135 137 2 (.bipush 64) := ⟨by decide +kernel, rfl⟩
theorem d_X12_lifted_137 : kf_dq cX12_lifted 137 138 1 (.iload_n 2) := ⟨by decide +kernel, rfl⟩
theorem d_X12_lifted_138 : kf_dq cX12_lifted 138 139 1 (.iadd) := ⟨by decide +kernel, rfl⟩
theorem d_X12_lifted_139 : kf_dq cX12_lifted 139 140 1 (.dup2) := ⟨by decide +kernel, rfl⟩
theorem d_X12_lifted_140 : kf_dq cX12_lifted 140 141 1 (.iaload) := ⟨by decide +kernel, rfl⟩
theorem d_X12_lifted_141 : kf_dq cX12_lifted 141 142 1 (.iconst 1) := ⟨by decide +kernel, rfl⟩
theorem d_X12_lifted_142 : kf_dq cX12_lifted 142 143 1 (.iadd) := ⟨by decide +kernel, rfl⟩
theorem d_X12_lifted_143 : kf_dq cX12_lifted 143 144 1 (.iastore) := ⟨by decide +kernel, rfl⟩
theorem d_X12_lifted_144 : kf_dq cX12_lifted 144 145 1 (.aload_n 0) := ⟨by decide +kernel, rfl⟩
theorem d_X12_lifted_145 : kf_dq cX12_lifted 145 148 3 (.getfield 122) := ⟨by decide +kernel, rfl⟩
theorem d_X12_lifted_148 : kf_dq cX12_lifted 148 150 2 (.bipush 48) := ⟨by decide +kernel, rfl⟩
theorem d_X12_lifted_150 : kf_dq cX12_lifted 150 151 1 (.iload_n 1) := ⟨by decide +kernel, rfl⟩
theorem d_X12_lifted_151 : kf_dq cX12_lifted 151 152 1 (.iadd) := ⟨by decide +kernel, rfl⟩
theorem d_X12_lifted_152 : kf_dq cX12_lifted 152 153 1 (.iconst 1) := ⟨by decide +kernel, rfl⟩
theorem d_X12_lifted_153 : kf_dq cX12_lifted 153 154 1 (.iastore) := ⟨by decide +kernel, rfl⟩
theorem d_X12_lifted_154 : kf_dq cX12_lifted 154 155 1 (.return_) := ⟨by decide +kernel, rfl⟩
def f_X12_lifted_40_s (rec40 : Nat → Int32 → Int32 → Int32 → Int32 → kf_St → Option kf_St) (v0 : Nat) (v1 : Int32) (v2 : Int32) (v3 : Int32) (v4 : Int32) (σ : kf_St) : Option kf_St :=
  if 4 ≤ v4 then
    if kf_ix (42 + v1) (kf_ln (kf_rf v0 52)) = true then
    (f_X12_within ((σ.1 (kf_rf v0 52) (Int32.toNatClampNeg (42 + v1))) + v3) 0 999999 σ).bind fun q_3 =>
    if kf_ix (42 + v1) (kf_ln (kf_rf v0 52)) = true then
    kf_lt (kf_wi q_3.2 (kf_rf v0 52) (Int32.toNatClampNeg (42 + v1)) q_3.1) fun σ_5 =>
    if kf_ix (24 + v1) (kf_ln (kf_rf v0 52)) = true then
    if kf_ix (24 + v1) (kf_ln (kf_rf v0 52)) = true then
    kf_lt (kf_wi σ_5 (kf_rf v0 52) (Int32.toNatClampNeg (24 + v1)) ((σ_5.1 (kf_rf v0 52) (Int32.toNatClampNeg (24 + v1))) + 1)) fun σ_8 =>
    if kf_ix (64 + v2) (kf_ln (kf_rf v0 52)) = true then
    if kf_ix (64 + v2) (kf_ln (kf_rf v0 52)) = true then
    kf_lt (kf_wi σ_8 (kf_rf v0 52) (Int32.toNatClampNeg (64 + v2)) ((σ_8.1 (kf_rf v0 52) (Int32.toNatClampNeg (64 + v2))) + 1)) fun σ_11 =>
    if kf_ix (48 + v1) (kf_ln (kf_rf v0 52)) = true then
    kf_lt (kf_wi σ_11 (kf_rf v0 52) (Int32.toNatClampNeg (48 + v1)) 1) fun σ_13 =>
    some σ_13
    else none
    else none
    else none
    else none
    else none
    else none
    else none
  else
    if kf_ix ((4 * v1) + v4) (kf_ln (kf_rf v0 52)) = true then
    (f_X12_facePart v0 v2 v4 σ).bind fun q_15 =>
    if kf_ix v4 (kf_ln (kf_rf v0 55)) = true then
    (f_X12_towardsBy (σ.1 (kf_rf v0 52) (Int32.toNatClampNeg ((4 * v1) + v4))) q_15.1 (q_15.2.1 (kf_rf v0 55) (Int32.toNatClampNeg v4)) q_15.2).bind fun q_17 =>
    if kf_ix ((4 * v1) + v4) (kf_ln (kf_rf v0 52)) = true then
    kf_lt (kf_wi q_17.2 (kf_rf v0 52) (Int32.toNatClampNeg ((4 * v1) + v4)) q_17.1) fun σ_19 =>
    kf_lt (v4 + 1) fun v4_20 =>
    rec40 v0 v1 v2 v3 v4_20 σ_19
    else none
    else none
    else none
def f_X12_lifted_40 : Nat → Nat → Int32 → Int32 → Int32 → Int32 → kf_St → Option kf_St
  | 0, _, _, _, _, _, _ => none
  | n + 1, v0, v1, v2, v3, v4, σ => f_X12_lifted_40_s (f_X12_lifted_40 n) v0 v1 v2 v3 v4 σ
set_option maxRecDepth 100000 in
set_option maxHeartbeats 4000000 in
theorem b_X12_lifted_40_s {X : kf_X} {G : kf_G} (rec40 : Nat → Int32 → Int32 → Int32 → Int32 → kf_St → Option kf_St) {q : kf_St} (E : kf_ok X G cX12_lifted RX12 5 none (4)) (hty : kf_wt G) (hrec40 : ∀ (v0 : Nat) (v1 : Int32) (v2 : Int32) (v3 : Int32) (v4 : Int32) (k_v0 : kf_kd G v0 = 13) (σ : kf_St), rec40 v0 v1 v2 v3 v4 σ = some q → kf_WA X G 5 (kf_Q X G none q) 40 [(0, .ref (kf_ad G v0)), (1, .int v1), (2, .int v2), (3, .int v3), (4, .int v4)] [] σ) (v0 : Nat) (v1 : Int32) (v2 : Int32) (v3 : Int32) (v4 : Int32) (k_v0 : kf_kd G v0 = 13) (σ : kf_St) (h : f_X12_lifted_40_s rec40 v0 v1 v2 v3 v4 σ = some q) : kf_WA X G 5 (kf_Q X G none q) 40 [(0, .ref (kf_ad G v0)), (1, .int v1), (2, .int v2), (3, .int v3), (4, .int v4)] [] σ := by
  unfold f_X12_lifted_40_s at h
  refine wa_iload 4 rfl E d_X12_lifted_40 ?_
  refine wa_iconst 4 ic_4 E d_X12_lifted_42 ?_
  refine wa_icmp_ge E d_X12_lifted_43 (fun c_1 => ?_) (fun c_1 => ?_)
  · replace h := kf_ift c_1 h
    refine wa_aload_n 0 rfl E d_X12_lifted_91 ?_
    refine wa_getR fl_X12_122 k_v0 rfl E d_X12_lifted_92 ?_
    refine wa_bipush 42 bp_42 E d_X12_lifted_95 ?_
    refine wa_iload_n 1 rfl E d_X12_lifted_97 ?_
    refine wa_iadd E d_X12_lifted_98 ?_
    refine wa_aload_n 0 rfl E d_X12_lifted_99 ?_
    refine wa_getR fl_X12_122 k_v0 rfl E d_X12_lifted_100 ?_
    refine wa_bipush 42 bp_42 E d_X12_lifted_103 ?_
    refine wa_iload_n 1 rfl E d_X12_lifted_105 ?_
    refine wa_iadd E d_X12_lifted_106 ?_
    obtain ⟨g_2, h⟩ := kf_gd h
    refine wa_iald (kf_wtf hty 52 49 k_v0 (by decide) rfl) g_2 E d_X12_lifted_107 ?_
    refine wa_iload_n 3 rfl E d_X12_lifted_108 ?_
    refine wa_iadd E d_X12_lifted_109 ?_
    refine wa_iconst 0 ic_0 E d_X12_lifted_110 ?_
    refine wa_ldcw cst_X12_369 E d_X12_lifted_111 ?_
    obtain ⟨q_3, hq_3, h⟩ := kf_bd h
    refine wa_callS (st2 := [.int q_3.1, .int (42 + v1), .ref (kf_ad G (kf_rf v0 52))]) (c_X12_within hty ((σ.1 (kf_rf v0 52) (Int32.toNatClampNeg (42 + v1))) + v3) 0 999999 σ hq_3) mt_X12_within ml_X12_354 rfl (Nat.le_of_ble_eq_true rfl) rfl (Nat.le_of_ble_eq_true rfl) E d_X12_lifted_114 rfl ?_
    obtain ⟨g_4, h⟩ := kf_gd h
    obtain ⟨σ_5, eσ_5, h⟩ := kf_lte h
    refine wa_iast (kf_wtf hty 52 49 k_v0 (by decide) rfl) g_4 E d_X12_lifted_117 eσ_5 ?_
    refine wa_aload_n 0 rfl E d_X12_lifted_118 ?_
    refine wa_getR fl_X12_122 k_v0 rfl E d_X12_lifted_119 ?_
    refine wa_bipush 24 bp_24 E d_X12_lifted_122 ?_
    refine wa_iload_n 1 rfl E d_X12_lifted_124 ?_
    refine wa_iadd E d_X12_lifted_125 ?_
    refine wa_dup2 rfl rfl E d_X12_lifted_126 ?_
    obtain ⟨g_6, h⟩ := kf_gd h
    refine wa_iald (kf_wtf hty 52 49 k_v0 (by decide) rfl) g_6 E d_X12_lifted_127 ?_
    refine wa_iconst 1 ic_1 E d_X12_lifted_128 ?_
    refine wa_iadd E d_X12_lifted_129 ?_
    obtain ⟨g_7, h⟩ := kf_gd h
    obtain ⟨σ_8, eσ_8, h⟩ := kf_lte h
    refine wa_iast (kf_wtf hty 52 49 k_v0 (by decide) rfl) g_7 E d_X12_lifted_130 eσ_8 ?_
    refine wa_aload_n 0 rfl E d_X12_lifted_131 ?_
    refine wa_getR fl_X12_122 k_v0 rfl E d_X12_lifted_132 ?_
    refine wa_bipush 64 bp_64 E d_X12_lifted_135 ?_
    refine wa_iload_n 2 rfl E d_X12_lifted_137 ?_
    refine wa_iadd E d_X12_lifted_138 ?_
    refine wa_dup2 rfl rfl E d_X12_lifted_139 ?_
    obtain ⟨g_9, h⟩ := kf_gd h
    refine wa_iald (kf_wtf hty 52 49 k_v0 (by decide) rfl) g_9 E d_X12_lifted_140 ?_
    refine wa_iconst 1 ic_1 E d_X12_lifted_141 ?_
    refine wa_iadd E d_X12_lifted_142 ?_
    obtain ⟨g_10, h⟩ := kf_gd h
    obtain ⟨σ_11, eσ_11, h⟩ := kf_lte h
    refine wa_iast (kf_wtf hty 52 49 k_v0 (by decide) rfl) g_10 E d_X12_lifted_143 eσ_11 ?_
    refine wa_aload_n 0 rfl E d_X12_lifted_144 ?_
    refine wa_getR fl_X12_122 k_v0 rfl E d_X12_lifted_145 ?_
    refine wa_bipush 48 bp_48 E d_X12_lifted_148 ?_
    refine wa_iload_n 1 rfl E d_X12_lifted_150 ?_
    refine wa_iadd E d_X12_lifted_151 ?_
    refine wa_iconst 1 ic_1 E d_X12_lifted_152 ?_
    obtain ⟨g_12, h⟩ := kf_gd h
    obtain ⟨σ_13, eσ_13, h⟩ := kf_lte h
    refine wa_iast (kf_wtf hty 52 49 k_v0 (by decide) rfl) g_12 E d_X12_lifted_153 eσ_13 ?_
    cases h
    exact wa_vret E d_X12_lifted_154
  · replace h := kf_iff c_1 h
    refine wa_aload_n 0 rfl E d_X12_lifted_46 ?_
    refine wa_getR fl_X12_122 k_v0 rfl E d_X12_lifted_47 ?_
    refine wa_iconst 4 ic_4 E d_X12_lifted_50 ?_
    refine wa_iload_n 1 rfl E d_X12_lifted_51 ?_
    refine wa_imul E d_X12_lifted_52 ?_
    refine wa_iload 4 rfl E d_X12_lifted_53 ?_
    refine wa_iadd E d_X12_lifted_55 ?_
    refine wa_aload_n 0 rfl E d_X12_lifted_56 ?_
    refine wa_getR fl_X12_122 k_v0 rfl E d_X12_lifted_57 ?_
    refine wa_iconst 4 ic_4 E d_X12_lifted_60 ?_
    refine wa_iload_n 1 rfl E d_X12_lifted_61 ?_
    refine wa_imul E d_X12_lifted_62 ?_
    refine wa_iload 4 rfl E d_X12_lifted_63 ?_
    refine wa_iadd E d_X12_lifted_65 ?_
    obtain ⟨g_14, h⟩ := kf_gd h
    refine wa_iald (kf_wtf hty 52 49 k_v0 (by decide) rfl) g_14 E d_X12_lifted_66 ?_
    refine wa_aload_n 0 rfl E d_X12_lifted_67 ?_
    refine wa_iload_n 2 rfl E d_X12_lifted_68 ?_
    refine wa_iload 4 rfl E d_X12_lifted_69 ?_
    obtain ⟨q_15, hq_15, h⟩ := kf_bd h
    refine wa_callV (st2 := [.int q_15.1, .int (σ.1 (kf_rf v0 52) (Int32.toNatClampNeg ((4 * v1) + v4))), .int ((4 * v1) + v4), .ref (kf_ad G (kf_rf v0 52))]) (c_X12_facePart hty v0 v2 v4 k_v0 σ hq_15) mv_X12_facePart ml_X12_333 k_v0 rfl (Nat.le_of_ble_eq_true rfl) rfl (Nat.le_of_ble_eq_true rfl) E d_X12_lifted_71 rfl ?_
    refine wa_aload_n 0 rfl E d_X12_lifted_74 ?_
    refine wa_getR fl_X12_125 k_v0 rfl E d_X12_lifted_75 ?_
    refine wa_iload 4 rfl E d_X12_lifted_78 ?_
    obtain ⟨g_16, h⟩ := kf_gd h
    refine wa_iald (kf_wtf hty 55 49 k_v0 (by decide) rfl) g_16 E d_X12_lifted_80 ?_
    obtain ⟨q_17, hq_17, h⟩ := kf_bd h
    refine wa_callS (st2 := [.int q_17.1, .int ((4 * v1) + v4), .ref (kf_ad G (kf_rf v0 52))]) (c_X12_towardsBy hty (σ.1 (kf_rf v0 52) (Int32.toNatClampNeg ((4 * v1) + v4))) q_15.1 (q_15.2.1 (kf_rf v0 55) (Int32.toNatClampNeg v4)) q_15.2 hq_17) mt_X12_towardsBy ml_X12_366 rfl (Nat.le_of_ble_eq_true rfl) rfl (Nat.le_of_ble_eq_true rfl) E d_X12_lifted_81 rfl ?_
    obtain ⟨g_18, h⟩ := kf_gd h
    obtain ⟨σ_19, eσ_19, h⟩ := kf_lte h
    refine wa_iast (kf_wtf hty 52 49 k_v0 (by decide) rfl) g_18 E d_X12_lifted_84 eσ_19 ?_
    obtain ⟨v4_20, ev4_20, h⟩ := kf_lte h
    refine wa_iinc (lv' := [(4, .int v4_20), (0, .ref (kf_ad G v0)), (1, .int v1), (2, .int v2), (3, .int v3)]) v4_20 4 rfl (kf_inc ic_1 ev4_20) (by decide) rfl E d_X12_lifted_85 ?_
    refine wa_goto E d_X12_lifted_88 ?_
    refine wa_sub [1, 2, 3, 4, 0] rfl ?_
    exact hrec40 v0 v1 v2 v3 v4_20 k_v0 σ_19 h
theorem b_X12_lifted_40 {X : kf_X} {G : kf_G} {q : kf_St} (E : kf_ok X G cX12_lifted RX12 5 none (4)) (hty : kf_wt G) : ∀ (N : Nat) (v0 : Nat) (v1 : Int32) (v2 : Int32) (v3 : Int32) (v4 : Int32) (k_v0 : kf_kd G v0 = 13) (σ : kf_St) (_ : f_X12_lifted_40 N v0 v1 v2 v3 v4 σ = some q), kf_WA X G 5 (kf_Q X G none q) 40 [(0, .ref (kf_ad G v0)), (1, .int v1), (2, .int v2), (3, .int v3), (4, .int v4)] [] σ
  | 0, _, _, _, _, _, _, _, h => by cases h
  | N + 1, v0, v1, v2, v3, v4, k_v0, σ, h => b_X12_lifted_40_s _ E hty (b_X12_lifted_40 E hty N) v0 v1 v2 v3 v4 k_v0 σ h
def f_X12_lifted_10_s (rec10 : Nat → Int32 → Int32 → Int32 → Int32 → kf_St → Option kf_St) (v0 : Nat) (v1 : Int32) (v2 : Int32) (v3 : Int32) (v4 : Int32) (σ : kf_St) : Option kf_St :=
  if 4 ≤ v4 then
    f_X12_lifted_40 kf_F v0 v1 v2 v3 0 σ
  else
    (f_X12_givesOf v0 v1 v2 v4 σ).bind fun q_2 =>
    if kf_ix v4 (kf_ln (kf_rf v0 55)) = true then
    kf_lt (kf_wi q_2.2 (kf_rf v0 55) (Int32.toNatClampNeg v4) q_2.1) fun σ_4 =>
    kf_lt (v4 + 1) fun v4_5 =>
    rec10 v0 v1 v2 v3 v4_5 σ_4
    else none
def f_X12_lifted_10 : Nat → Nat → Int32 → Int32 → Int32 → Int32 → kf_St → Option kf_St
  | 0, _, _, _, _, _, _ => none
  | n + 1, v0, v1, v2, v3, v4, σ => f_X12_lifted_10_s (f_X12_lifted_10 n) v0 v1 v2 v3 v4 σ
set_option maxRecDepth 100000 in
set_option maxHeartbeats 4000000 in
theorem b_X12_lifted_10_s {X : kf_X} {G : kf_G} (rec10 : Nat → Int32 → Int32 → Int32 → Int32 → kf_St → Option kf_St) {q : kf_St} (E : kf_ok X G cX12_lifted RX12 5 none (4)) (hty : kf_wt G) (hrec10 : ∀ (v0 : Nat) (v1 : Int32) (v2 : Int32) (v3 : Int32) (v4 : Int32) (k_v0 : kf_kd G v0 = 13) (σ : kf_St), rec10 v0 v1 v2 v3 v4 σ = some q → kf_WA X G 5 (kf_Q X G none q) 10 [(0, .ref (kf_ad G v0)), (1, .int v1), (2, .int v2), (3, .int v3), (4, .int v4)] [] σ) (v0 : Nat) (v1 : Int32) (v2 : Int32) (v3 : Int32) (v4 : Int32) (k_v0 : kf_kd G v0 = 13) (σ : kf_St) (h : f_X12_lifted_10_s rec10 v0 v1 v2 v3 v4 σ = some q) : kf_WA X G 5 (kf_Q X G none q) 10 [(0, .ref (kf_ad G v0)), (1, .int v1), (2, .int v2), (3, .int v3), (4, .int v4)] [] σ := by
  unfold f_X12_lifted_10_s at h
  refine wa_iload 4 rfl E d_X12_lifted_10 ?_
  refine wa_iconst 4 ic_4 E d_X12_lifted_12 ?_
  refine wa_icmp_ge E d_X12_lifted_13 (fun c_1 => ?_) (fun c_1 => ?_)
  · replace h := kf_ift c_1 h
    refine wa_iconst 0 ic_0 E d_X12_lifted_37 ?_
    refine wa_istore (lv' := [(4, .int 0), (0, .ref (kf_ad G v0)), (1, .int v1), (2, .int v2), (3, .int v3)]) (by decide) rfl E d_X12_lifted_38 ?_
    refine wa_sub [1, 2, 3, 4, 0] rfl ?_
    exact b_X12_lifted_40 E hty kf_F v0 v1 v2 v3 0 k_v0 σ h
  · replace h := kf_iff c_1 h
    refine wa_aload_n 0 rfl E d_X12_lifted_16 ?_
    refine wa_getR fl_X12_125 k_v0 rfl E d_X12_lifted_17 ?_
    refine wa_iload 4 rfl E d_X12_lifted_20 ?_
    refine wa_aload_n 0 rfl E d_X12_lifted_22 ?_
    refine wa_iload_n 1 rfl E d_X12_lifted_23 ?_
    refine wa_iload_n 2 rfl E d_X12_lifted_24 ?_
    refine wa_iload 4 rfl E d_X12_lifted_25 ?_
    obtain ⟨q_2, hq_2, h⟩ := kf_bd h
    refine wa_callV (st2 := [.int q_2.1, .int v4, .ref (kf_ad G (kf_rf v0 55))]) (c_X12_givesOf hty v0 v1 v2 v4 k_v0 σ hq_2) mv_X12_givesOf ml_X12_363 k_v0 rfl (Nat.le_of_ble_eq_true rfl) rfl (Nat.le_of_ble_eq_true rfl) E d_X12_lifted_27 rfl ?_
    obtain ⟨g_3, h⟩ := kf_gd h
    obtain ⟨σ_4, eσ_4, h⟩ := kf_lte h
    refine wa_iast (kf_wtf hty 55 49 k_v0 (by decide) rfl) g_3 E d_X12_lifted_30 eσ_4 ?_
    obtain ⟨v4_5, ev4_5, h⟩ := kf_lte h
    refine wa_iinc (lv' := [(4, .int v4_5), (0, .ref (kf_ad G v0)), (1, .int v1), (2, .int v2), (3, .int v3)]) v4_5 4 rfl (kf_inc ic_1 ev4_5) (by decide) rfl E d_X12_lifted_31 ?_
    refine wa_goto E d_X12_lifted_34 ?_
    refine wa_sub [1, 2, 3, 4, 0] rfl ?_
    exact hrec10 v0 v1 v2 v3 v4_5 k_v0 σ_4 h
theorem b_X12_lifted_10 {X : kf_X} {G : kf_G} {q : kf_St} (E : kf_ok X G cX12_lifted RX12 5 none (4)) (hty : kf_wt G) : ∀ (N : Nat) (v0 : Nat) (v1 : Int32) (v2 : Int32) (v3 : Int32) (v4 : Int32) (k_v0 : kf_kd G v0 = 13) (σ : kf_St) (_ : f_X12_lifted_10 N v0 v1 v2 v3 v4 σ = some q), kf_WA X G 5 (kf_Q X G none q) 10 [(0, .ref (kf_ad G v0)), (1, .int v1), (2, .int v2), (3, .int v3), (4, .int v4)] [] σ
  | 0, _, _, _, _, _, _, _, h => by cases h
  | N + 1, v0, v1, v2, v3, v4, k_v0, σ, h => b_X12_lifted_10_s _ E hty (b_X12_lifted_10 E hty N) v0 v1 v2 v3 v4 k_v0 σ h
def f_X12_lifted (v0 : Nat) (v1 : Int32) (v2 : Int32) (σ : kf_St) : Option kf_St :=
  (f_X12_paysOf v0 v1 v2 σ).bind fun q_1 =>
  f_X12_lifted_10 kf_F v0 v1 v2 q_1.1 0 q_1.2
set_option maxRecDepth 100000 in
set_option maxHeartbeats 4000000 in
theorem c_X12_lifted {G : kf_G} (hty : kf_wt G) (v0 : Nat) (v1 : Int32) (v2 : Int32) (k_v0 : kf_kd G v0 = 13) (σ : kf_St) {q : kf_St} (h : f_X12_lifted v0 v1 v2 σ = some q) : kf_Ct (4) yX12_lifted cX12_lifted 5 none G [.ref (kf_ad G v0), .int v1, .int v2] σ none q := by
  refine kf_Ct.of hty.1 (lv := [(0, .ref (kf_ad G v0)), (1, .int v1), (2, .int v2)]) (by decide +kernel) rfl (Nat.le_of_ble_eq_true rfl) (fun X E => ?_)
  unfold f_X12_lifted at h
  refine wa_aload_n 0 rfl E d_X12_lifted_0 ?_
  refine wa_iload_n 1 rfl E d_X12_lifted_1 ?_
  refine wa_iload_n 2 rfl E d_X12_lifted_2 ?_
  obtain ⟨q_1, hq_1, h⟩ := kf_bd h
  refine wa_callV (st2 := [.int q_1.1]) (c_X12_paysOf hty v0 v1 v2 k_v0 σ hq_1) mv_X12_paysOf ml_X12_360 k_v0 rfl (Nat.le_of_ble_eq_true rfl) rfl (Nat.le_of_ble_eq_true rfl) E d_X12_lifted_3 rfl ?_
  refine wa_istore_n (lv' := [(3, .int q_1.1), (0, .ref (kf_ad G v0)), (1, .int v1), (2, .int v2)]) rfl (by decide) rfl E d_X12_lifted_6 ?_
  refine wa_iconst 0 ic_0 E d_X12_lifted_7 ?_
  refine wa_istore (lv' := [(4, .int 0), (3, .int q_1.1), (0, .ref (kf_ad G v0)), (1, .int v1), (2, .int v2)]) (by decide) rfl E d_X12_lifted_8 ?_
  refine wa_sub [2, 3, 4, 1, 0] rfl ?_
  exact b_X12_lifted_10 E hty kf_F v0 v1 v2 q_1.1 0 k_v0 q_1.2 h
/-! X12_isDue -/
theorem d_X12_isDue_0 : kf_dq cX12_isDue 0 1 1 (.aload_n 0) := ⟨by decide +kernel, rfl⟩
theorem d_X12_isDue_1 : kf_dq cX12_isDue 1 4 3 (.getfield 70) := ⟨by decide +kernel, rfl⟩
theorem d_X12_isDue_4 : kf_dq cX12_isDue 4 6 2 (.bipush 10) := ⟨by decide +kernel, rfl⟩
theorem d_X12_isDue_6 : kf_dq cX12_isDue 6 7 1 (.aload_n 0) := ⟨by decide +kernel, rfl⟩
theorem d_X12_isDue_7 : kf_dq cX12_isDue 7 10 3 (.getfield 233) := ⟨by decide +kernel, rfl⟩
theorem d_X12_isDue_10 : kf_dq cX12_isDue 10 11 1 (.imul) := ⟨by decide +kernel, rfl⟩
theorem d_X12_isDue_11 : kf_dq cX12_isDue 11 12 1 (.iload_n 1) := ⟨by decide +kernel, rfl⟩
theorem d_X12_isDue_12 : kf_dq cX12_isDue 12 13 1 (.iadd) := ⟨by decide +kernel, rfl⟩
theorem d_X12_isDue_13 : kf_dq cX12_isDue 13 14 1 (.iaload) := ⟨by decide +kernel, rfl⟩
theorem d_X12_isDue_14 : kf_dq cX12_isDue 14 15 1 (.istore_n 3) := ⟨by decide +kernel, rfl⟩
theorem d_X12_isDue_15 : kf_dq cX12_isDue 15 16 1 (.iload_n 2) := ⟨by decide +kernel, rfl⟩
theorem d_X12_isDue_16 : kf_dq cX12_isDue 16 17 1 (.iload_n 3) := ⟨by decide +kernel, rfl⟩
theorem d_X12_isDue_17 : kf_dj cX12_isDue 17 20 45 (.if_icmp .lt) := ⟨28, by decide +kernel, rfl, by decide⟩
theorem d_X12_isDue_20 : kf_dq cX12_isDue 20 21 1 (.iload_n 2) := ⟨by decide +kernel, rfl⟩
theorem d_X12_isDue_21 : kf_dq cX12_isDue 21 22 1 (.iload_n 3) := ⟨by decide +kernel, rfl⟩
theorem d_X12_isDue_22 : kf_dq cX12_isDue 22 23 1 (.isub) := ⟨by decide +kernel, rfl⟩
theorem d_X12_isDue_23 : kf_dq cX12_isDue 23 24 1 (.aload_n 0) := ⟨by decide +kernel, rfl⟩
theorem d_X12_isDue_24 : kf_dq cX12_isDue 24 27 3 (.getfield 67) := ⟨by decide +kernel, rfl⟩
theorem d_X12_isDue_27 : kf_dq cX12_isDue 27 29 2 (.bipush 10) := ⟨by decide +kernel, rfl⟩
theorem d_X12_isDue_29 : kf_dq cX12_isDue 29 30 1 (.aload_n 0) := ⟨by decide +kernel, rfl⟩
theorem d_X12_isDue_30 : kf_dq cX12_isDue 30 33 3 (.getfield 233) := ⟨by decide +kernel, rfl⟩
theorem d_X12_isDue_33 : kf_dq cX12_isDue 33 34 1 (.imul) := ⟨by decide +kernel, rfl⟩
theorem d_X12_isDue_34 : kf_dq cX12_isDue 34 35 1 (.iload_n 1) := ⟨by decide +kernel, rfl⟩
theorem d_X12_isDue_35 : kf_dq cX12_isDue 35 36 1 (.iadd) := ⟨by decide +kernel, rfl⟩
theorem d_X12_isDue_36 : kf_dq cX12_isDue 36 37 1 (.iaload) := ⟨by decide +kernel, rfl⟩
theorem d_X12_isDue_37 : kf_dq cX12_isDue 37 38 1 (.irem) := ⟨by decide +kernel, rfl⟩
theorem d_X12_isDue_38 : kf_dj cX12_isDue 38 41 45 (.ifCond .ne) := ⟨7, by decide +kernel, rfl, by decide⟩
theorem d_X12_isDue_41 : kf_dq cX12_isDue 41 42 1 (.iconst 1) := ⟨by decide +kernel, rfl⟩
theorem d_X12_isDue_42 : kf_dj cX12_isDue 42 45 46 .goto := ⟨4, by decide +kernel, rfl, by decide⟩
theorem d_X12_isDue_45 : kf_dq cX12_isDue 45 46 1 (.iconst 0) := ⟨by decide +kernel, rfl⟩
theorem d_X12_isDue_46 : kf_dq cX12_isDue 46 47 1 (.ireturn) := ⟨by decide +kernel, rfl⟩
def f_X12_isDue (v0 : Nat) (v1 : Int32) (v2 : Int32) (σ : kf_St) : Option (Int32 × kf_St) :=
  if kf_ix ((10 * (σ.1 v0 18)) + v1) (kf_ln (kf_rf v0 31)) = true then
  kf_lt ((σ.1 (kf_rf v0 31) (Int32.toNatClampNeg ((10 * (σ.1 v0 18)) + v1)))) fun v3_2 =>
  if v2 < v3_2 then
    some (0, σ)
  else
    if kf_ix ((10 * (σ.1 v0 18)) + v1) (kf_ln (kf_rf v0 30)) = true then
    if (σ.1 (kf_rf v0 30) (Int32.toNatClampNeg ((10 * (σ.1 v0 18)) + v1))) = 0 then none else
    if ((v2 - v3_2) - (v2 - v3_2) / (σ.1 (kf_rf v0 30) (Int32.toNatClampNeg ((10 * (σ.1 v0 18)) + v1))) * (σ.1 (kf_rf v0 30) (Int32.toNatClampNeg ((10 * (σ.1 v0 18)) + v1)))) = 0 then
      some (1, σ)
    else
      some (0, σ)
    else none
  else none
set_option maxRecDepth 100000 in
set_option maxHeartbeats 4000000 in
theorem c_X12_isDue {G : kf_G} (hty : kf_wt G) (v0 : Nat) (v1 : Int32) (v2 : Int32) (k_v0 : kf_kd G v0 = 13) (σ : kf_St) {q : (Int32 × kf_St)} (h : f_X12_isDue v0 v1 v2 σ = some q) : kf_Ct (1) yX12_isDue cX12_isDue 4 (some .boolean) G [.ref (kf_ad G v0), .int v1, .int v2] σ (some (.int q.1)) q.2 := by
  refine kf_Ct.of hty.1 (lv := [(0, .ref (kf_ad G v0)), (1, .int v1), (2, .int v2)]) (by decide +kernel) rfl (Nat.le_of_ble_eq_true rfl) (fun X E => ?_)
  unfold f_X12_isDue at h
  refine wa_aload_n 0 rfl E d_X12_isDue_0 ?_
  refine wa_getR fl_X12_70 k_v0 rfl E d_X12_isDue_1 ?_
  refine wa_bipush 10 bp_10 E d_X12_isDue_4 ?_
  refine wa_aload_n 0 rfl E d_X12_isDue_6 ?_
  refine wa_getI fl_X12_233 k_v0 rfl E d_X12_isDue_7 ?_
  refine wa_imul E d_X12_isDue_10 ?_
  refine wa_iload_n 1 rfl E d_X12_isDue_11 ?_
  refine wa_iadd E d_X12_isDue_12 ?_
  obtain ⟨g_1, h⟩ := kf_gd h
  refine wa_iald (kf_wtf hty 31 49 k_v0 (by decide) rfl) g_1 E d_X12_isDue_13 ?_
  obtain ⟨v3_2, ev3_2, h⟩ := kf_lte h
  refine wa_topi ev3_2 ?_
  refine wa_istore_n (lv' := [(3, .int v3_2), (0, .ref (kf_ad G v0)), (1, .int v1), (2, .int v2)]) rfl (by decide) rfl E d_X12_isDue_14 ?_
  refine wa_iload_n 3 rfl E d_X12_isDue_15 ?_
  refine wa_iload_n 0 rfl E d_X12_isDue_16 ?_
  refine wa_icmp_lt E d_X12_isDue_17 (fun c_3 => ?_) (fun c_3 => ?_)
  · replace h := kf_ift c_3 h
    refine wa_iconst 0 ic_0 E d_X12_isDue_45 ?_
    cases h
    exact wa_zret kf_z0 E d_X12_isDue_46
  · replace h := kf_iff c_3 h
    refine wa_iload_n 3 rfl E d_X12_isDue_20 ?_
    refine wa_iload_n 0 rfl E d_X12_isDue_21 ?_
    refine wa_isub E d_X12_isDue_22 ?_
    refine wa_aload_n 1 rfl E d_X12_isDue_23 ?_
    refine wa_getR fl_X12_67 k_v0 rfl E d_X12_isDue_24 ?_
    refine wa_bipush 10 bp_10 E d_X12_isDue_27 ?_
    refine wa_aload_n 1 rfl E d_X12_isDue_29 ?_
    refine wa_getI fl_X12_233 k_v0 rfl E d_X12_isDue_30 ?_
    refine wa_imul E d_X12_isDue_33 ?_
    refine wa_iload_n 2 rfl E d_X12_isDue_34 ?_
    refine wa_iadd E d_X12_isDue_35 ?_
    obtain ⟨g_4, h⟩ := kf_gd h
    refine wa_iald (kf_wtf hty 30 49 k_v0 (by decide) rfl) g_4 E d_X12_isDue_36 ?_
    obtain ⟨g_5, h⟩ := kf_gn h
    refine wa_irem g_5 E d_X12_isDue_37 ?_
    refine wa_if_ne E d_X12_isDue_38 (fun c_6 => ?_) (fun c_6 => ?_)
    · replace h := kf_iff c_6 h
      refine wa_iconst 0 ic_0 E d_X12_isDue_45 ?_
      cases h
      exact wa_zret kf_z0 E d_X12_isDue_46
    · replace h := kf_ift c_6 h
      refine wa_iconst 1 ic_1 E d_X12_isDue_41 ?_
      refine wa_goto E d_X12_isDue_42 ?_
      cases h
      exact wa_zret kf_z1 E d_X12_isDue_46
