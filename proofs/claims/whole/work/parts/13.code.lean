/-! X6_readSetting -/
theorem d_X6_readSetting_0 : kf_dq cX6_readSetting 0 1 1 (.aload_n 0) := ⟨by decide +kernel, rfl⟩
theorem d_X6_readSetting_1 : kf_dq cX6_readSetting 1 2 1 (.aload_n 0) := ⟨by decide +kernel, rfl⟩
theorem d_X6_readSetting_2 : kf_dq cX6_readSetting 2 5 3 (.getfield 40) := ⟨by decide +kernel, rfl⟩
theorem d_X6_readSetting_5 : kf_dq cX6_readSetting 5 8 3 (.invokevirtual 101) := ⟨by decide +kernel, rfl⟩
theorem d_X6_readSetting_8 : kf_dq cX6_readSetting 8 9 1 (.aload_n 0) := ⟨by decide +kernel, rfl⟩
theorem d_X6_readSetting_9 : kf_dq cX6_readSetting 9 10 1 (.iconst 0) := ⟨by decide +kernel, rfl⟩
theorem d_X6_readSetting_10 : kf_dq cX6_readSetting 10 11 1 (.iload_n 1) := ⟨by decide +kernel, rfl⟩
theorem d_X6_readSetting_11 : kf_dq cX6_readSetting 11 14 3 (.invokevirtual 147) := ⟨by decide +kernel, rfl⟩
theorem d_X6_readSetting_14 : kf_dq cX6_readSetting 14 15 1 (.ireturn) := ⟨by decide +kernel, rfl⟩
def f_X6_readSetting (v0 : Nat) (v1 : Int32) (σ : kf_St) : Option (Int32 × kf_St) :=
  (f_X6_take v0 (σ.1 v0 5) σ).bind fun q_1 =>
  (f_X6_readNumber v0 0 v1 q_1).bind fun q_2 =>
  some (q_2.1, q_2.2)
set_option maxRecDepth 100000 in
set_option maxHeartbeats 4000000 in
theorem c_X6_readSetting {G : kf_G} (hty : kf_wt G) (v0 : Nat) (v1 : Int32) (k_v0 : kf_kd G v0 = 7) (σ : kf_St) {q : (Int32 × kf_St)} (h : f_X6_readSetting v0 v1 σ = some q) : kf_Ct (4) yX6_readSetting cX6_readSetting 2 (some .int) G [.ref (kf_ad G v0), .int v1] σ (some (.int q.1)) q.2 := by
  refine kf_Ct.of hty.1 (lv := [(0, .ref (kf_ad G v0)), (1, .int v1)]) (by decide +kernel) rfl (Nat.le_of_ble_eq_true rfl) (fun X E => ?_)
  unfold f_X6_readSetting at h
  refine wa_aload_n 0 rfl E d_X6_readSetting_0 ?_
  refine wa_aload_n 0 rfl E d_X6_readSetting_1 ?_
  refine wa_getI fl_X6_40 k_v0 rfl E d_X6_readSetting_2 ?_
  obtain ⟨q_1, hq_1, h⟩ := kf_bd h
  refine wa_callV (st2 := []) (c_X6_take hty v0 (σ.1 v0 5) k_v0 σ hq_1) mv_X6_take ml_X6_101 k_v0 rfl (Nat.le_of_ble_eq_true rfl) rfl (Nat.le_of_ble_eq_true rfl) E d_X6_readSetting_5 rfl ?_
  refine wa_aload_n 0 rfl E d_X6_readSetting_8 ?_
  refine wa_iconst 0 ic_0 E d_X6_readSetting_9 ?_
  refine wa_iload_n 1 rfl E d_X6_readSetting_10 ?_
  obtain ⟨q_2, hq_2, h⟩ := kf_bd h
  refine wa_callV (st2 := [.int q_2.1]) (c_X6_readNumber hty v0 0 v1 k_v0 q_1 hq_2) mv_X6_readNumber ml_X6_147 k_v0 rfl (Nat.le_of_ble_eq_true rfl) rfl (Nat.le_of_ble_eq_true rfl) E d_X6_readSetting_11 rfl ?_
  cases h
  exact wa_iret E d_X6_readSetting_14
/-! X6_readTell -/
theorem d_X6_readTell_0 : kf_dq cX6_readTell 0 1 1 (.aload_n 0) := ⟨by decide +kernel, rfl⟩
theorem d_X6_readTell_1 : kf_dq cX6_readTell 1 4 3 (.getfield 40) := ⟨by decide +kernel, rfl⟩
theorem d_X6_readTell_4 : decode cX6_readTell 4 = .ok (.tableswitch 165 256 264 #[52, 59, 66, 73, 87, 101, 115, 131, 148], 52) := by decide +kernel
theorem d_X6_readTell_56 : kf_dq cX6_readTell 56 57 1 (.aload_n 0) := ⟨by decide +kernel, rfl⟩
theorem d_X6_readTell_57 : kf_dq cX6_readTell 57 60 3 (.invokevirtual 62) := ⟨by decide +kernel, rfl⟩
theorem d_X6_readTell_60 : kf_dj cX6_readTell 60 63 174 .goto := ⟨114, by decide +kernel, rfl, by decide⟩
theorem d_X6_readTell_63 : kf_dq cX6_readTell 63 64 1 (.aload_n 0) := ⟨by decide +kernel, rfl⟩
theorem d_X6_readTell_64 : kf_dq cX6_readTell 64 67 3 (.invokevirtual 65) := ⟨by decide +kernel, rfl⟩
theorem d_X6_readTell_67 : kf_dj cX6_readTell 67 70 174 .goto := ⟨107, by decide +kernel, rfl, by decide⟩
theorem d_X6_readTell_70 : kf_dq cX6_readTell 70 71 1 (.aload_n 0) := ⟨by decide +kernel, rfl⟩
theorem d_X6_readTell_71 : kf_dq cX6_readTell 71 74 3 (.invokevirtual 68) := ⟨by decide +kernel, rfl⟩
theorem d_X6_readTell_74 : kf_dj cX6_readTell 74 77 174 .goto := ⟨100, by decide +kernel, rfl, by decide⟩
theorem d_X6_readTell_77 : kf_dq cX6_readTell 77 78 1 (.aload_n 0) := ⟨by decide +kernel, rfl⟩
theorem d_X6_readTell_78 : kf_dq cX6_readTell 78 79 1 (.aload_n 0) := ⟨by decide +kernel, rfl⟩
theorem d_X6_readTell_79 : kf_dq cX6_readTell 79 82 3 (.getfield 15) := ⟨by decide +kernel, rfl⟩
theorem d_X6_readTell_82 : kf_dq cX6_readTell 82 85 3 (.getfield 71) := ⟨by decide +kernel, rfl⟩
theorem d_X6_readTell_85 : kf_dq cX6_readTell 85 88 3 (.invokevirtual 75) := ⟨by decide +kernel, rfl⟩
theorem d_X6_readTell_88 : kf_dj cX6_readTell 88 91 174 .goto := ⟨86, by decide +kernel, rfl, by decide⟩
theorem d_X6_readTell_91 : kf_dq cX6_readTell 91 92 1 (.aload_n 0) := ⟨by decide +kernel, rfl⟩
theorem d_X6_readTell_92 : kf_dq cX6_readTell 92 93 1 (.aload_n 0) := ⟨by decide +kernel, rfl⟩
theorem d_X6_readTell_93 : kf_dq cX6_readTell 93 96 3 (.getfield 15) := ⟨by decide +kernel, rfl⟩
theorem d_X6_readTell_96 : kf_dq cX6_readTell 96 99 3 (.getfield 79) := ⟨by decide +kernel, rfl⟩
theorem d_X6_readTell_99 : kf_dq cX6_readTell 99 102 3 (.invokevirtual 75) := ⟨by decide +kernel, rfl⟩
theorem d_X6_readTell_102 : kf_dj cX6_readTell 102 105 174 .goto := ⟨72, by decide +kernel, rfl, by decide⟩
theorem d_X6_readTell_105 : kf_dq cX6_readTell 105 106 1 (.aload_n 0) := ⟨by decide +kernel, rfl⟩
theorem d_X6_readTell_106 : kf_dq cX6_readTell 106 107 1 (.aload_n 0) := ⟨by decide +kernel, rfl⟩
theorem d_X6_readTell_107 : kf_dq cX6_readTell 107 110 3 (.getfield 15) := ⟨by decide +kernel, rfl⟩
theorem d_X6_readTell_110 : kf_dq cX6_readTell 110 113 3 (.getfield 82) := ⟨by decide +kernel, rfl⟩
theorem d_X6_readTell_113 : kf_dq cX6_readTell 113 116 3 (.invokevirtual 75) := ⟨by decide +kernel, rfl⟩
theorem d_X6_readTell_116 : kf_dj cX6_readTell 116 119 174 .goto := ⟨58, by decide +kernel, rfl, by decide⟩
theorem d_X6_readTell_119 : kf_dq cX6_readTell 119 120 1 (.aload_n 0) := ⟨by decide +kernel, rfl⟩
theorem d_X6_readTell_120 : kf_dq cX6_readTell 120 123 3 (.getfield 15) := ⟨by decide +kernel, rfl⟩
theorem d_X6_readTell_123 : kf_dq cX6_readTell 123 124 1 (.aload_n 0) := ⟨by decide +kernel, rfl⟩
theorem d_X6_readTell_124 : kf_dq cX6_readTell 124 126 2 (.bipush 100) := ⟨by decide +kernel, rfl⟩
theorem d_X6_readTell_126 : kf_dq cX6_readTell 126 129 3 (.invokevirtual 85) := ⟨by decide +kernel, rfl⟩
theorem d_X6_readTell_129 : kf_dq cX6_readTell 129 132 3 (.putfield 88) := ⟨by decide +kernel, rfl⟩
theorem d_X6_readTell_132 : kf_dj cX6_readTell 132 135 174 .goto := ⟨42, by decide +kernel, rfl, by decide⟩
theorem d_X6_readTell_135 : kf_dq cX6_readTell 135 136 1 (.aload_n 0) := ⟨by decide +kernel, rfl⟩
theorem d_X6_readTell_136 : kf_dq cX6_readTell 136 139 3 (.getfield 15) := ⟨by decide +kernel, rfl⟩
theorem d_X6_readTell_139 : kf_dq cX6_readTell 139 140 1 (.aload_n 0) := ⟨by decide +kernel, rfl⟩
theorem d_X6_readTell_140 : kf_dq cX6_readTell 140 143 3 (.sipush 396) := ⟨by decide +kernel, rfl⟩
theorem d_X6_readTell_143 : kf_dq cX6_readTell 143 146 3 (.invokevirtual 85) := ⟨by decide +kernel, rfl⟩
theorem d_X6_readTell_146 : kf_dq cX6_readTell 146 149 3 (.putfield 91) := ⟨by decide +kernel, rfl⟩
theorem d_X6_readTell_149 : kf_dj cX6_readTell 149 152 174 .goto := ⟨25, by decide +kernel, rfl, by decide⟩
theorem d_X6_readTell_152 : kf_dq cX6_readTell 152 153 1 (.aload_n 0) := ⟨by decide +kernel, rfl⟩
theorem d_X6_readTell_153 : kf_dq cX6_readTell 153 156 3 (.getfield 15) := ⟨by decide +kernel, rfl⟩
theorem d_X6_readTell_156 : kf_dq cX6_readTell 156 157 1 (.aload_n 0) := ⟨by decide +kernel, rfl⟩
theorem d_X6_readTell_157 : kf_dq cX6_readTell 157 160 3 (.sipush 9999) := ⟨by decide +kernel, rfl⟩
theorem d_X6_readTell_160 : kf_dq cX6_readTell 160 163 3 (.invokevirtual 85) := ⟨by decide +kernel, rfl⟩
theorem d_X6_readTell_163 : kf_dq cX6_readTell 163 166 3 (.putfield 94) := ⟨by decide +kernel, rfl⟩
theorem d_X6_readTell_166 : kf_dj cX6_readTell 166 169 174 .goto := ⟨8, by decide +kernel, rfl, by decide⟩
theorem d_X6_readTell_169 : kf_dq cX6_readTell 169 170 1 (.aload_n 0) := ⟨by decide +kernel, rfl⟩
theorem d_X6_readTell_170 : kf_dq cX6_readTell 170 171 1 (.iconst 1) := ⟨by decide +kernel, rfl⟩
theorem d_X6_readTell_171 : kf_dq cX6_readTell 171 174 3 (.invokevirtual 97) := ⟨by decide +kernel, rfl⟩
theorem d_X6_readTell_174 : kf_dq cX6_readTell 174 175 1 (.aload_n 0) := ⟨by decide +kernel, rfl⟩
theorem d_X6_readTell_175 : kf_dq cX6_readTell 175 177 2 (.bipush 59) := ⟨by decide +kernel, rfl⟩
theorem d_X6_readTell_177 : kf_dq cX6_readTell 177 180 3 (.invokevirtual 101) := ⟨by decide +kernel, rfl⟩
theorem d_X6_readTell_180 : kf_dq cX6_readTell 180 181 1 (.return_) := ⟨by decide +kernel, rfl⟩
def f_X6_readTell_174 (v0 : Nat) (σ : kf_St) : Option kf_St :=
  (f_X6_take v0 59 σ).bind fun q_1 =>
  some q_1
set_option maxRecDepth 100000 in
set_option maxHeartbeats 4000000 in
theorem b_X6_readTell_174 {X : kf_X} {G : kf_G} {q : kf_St} (E : kf_ok X G cX6_readTell RX6 1 none (39)) (hty : kf_wt G) (v0 : Nat) (k_v0 : kf_kd G v0 = 7) (σ : kf_St) (h : f_X6_readTell_174 v0 σ = some q) : kf_WA X G 1 (kf_Q X G none q) 174 [(0, .ref (kf_ad G v0))] [] σ := by
  unfold f_X6_readTell_174 at h
  refine wa_aload_n 0 rfl E d_X6_readTell_174 ?_
  refine wa_bipush 59 bp_59 E d_X6_readTell_175 ?_
  obtain ⟨q_1, hq_1, h⟩ := kf_bd h
  refine wa_callV (st2 := []) (c_X6_take hty v0 59 k_v0 σ hq_1) mv_X6_take ml_X6_101 k_v0 rfl (Nat.le_of_ble_eq_true rfl) rfl (Nat.le_of_ble_eq_true rfl) E d_X6_readTell_177 rfl ?_
  cases h
  exact wa_vret E d_X6_readTell_180
def f_X6_readTell (v0 : Nat) (σ : kf_St) : Option kf_St :=
  if (σ.1 v0 5) = 256 then
    (f_X6_readDoor v0 σ).bind fun q_2 =>
    f_X6_readTell_174 v0 q_2
  else
    if (σ.1 v0 5) = 257 then
      (f_X6_readCaller v0 σ).bind fun q_4 =>
      f_X6_readTell_174 v0 q_4
    else
      if (σ.1 v0 5) = 258 then
        (f_X6_readRound v0 σ).bind fun q_6 =>
        f_X6_readTell_174 v0 q_6
      else
        if (σ.1 v0 5) = 259 then
          (f_X6_readLaw v0 (kf_rf (kf_rf v0 3) 14) σ).bind fun q_8 =>
          f_X6_readTell_174 v0 q_8
        else
          if (σ.1 v0 5) = 260 then
            (f_X6_readLaw v0 (kf_rf (kf_rf v0 3) 15) σ).bind fun q_10 =>
            f_X6_readTell_174 v0 q_10
          else
            if (σ.1 v0 5) = 261 then
              (f_X6_readLaw v0 (kf_rf (kf_rf v0 3) 16) σ).bind fun q_12 =>
              f_X6_readTell_174 v0 q_12
            else
              if (σ.1 v0 5) = 262 then
                (f_X6_readSetting v0 100 σ).bind fun q_14 =>
                kf_lt (kf_wi q_14.2 (kf_rf v0 3) 3 q_14.1) fun σ_15 =>
                f_X6_readTell_174 v0 σ_15
              else
                if (σ.1 v0 5) = 263 then
                  (f_X6_readSetting v0 396 σ).bind fun q_17 =>
                  kf_lt (kf_wi q_17.2 (kf_rf v0 3) 4 q_17.1) fun σ_18 =>
                  f_X6_readTell_174 v0 σ_18
                else
                  if (σ.1 v0 5) = 264 then
                    (f_X6_readSetting v0 9999 σ).bind fun q_20 =>
                    kf_lt (kf_wi q_20.2 (kf_rf v0 3) 5 q_20.1) fun σ_21 =>
                    f_X6_readTell_174 v0 σ_21
                  else
                    (f_X6_fail v0 1 σ).bind fun q_22 =>
                    f_X6_readTell_174 v0 q_22
set_option maxRecDepth 100000 in
set_option maxHeartbeats 4000000 in
theorem c_X6_readTell {G : kf_G} (hty : kf_wt G) (v0 : Nat) (k_v0 : kf_kd G v0 = 7) (σ : kf_St) {q : kf_St} (h : f_X6_readTell v0 σ = some q) : kf_Ct (39) yX6_readTell cX6_readTell 1 none G [.ref (kf_ad G v0)] σ none q := by
  refine kf_Ct.of hty.1 (lv := [(0, .ref (kf_ad G v0))]) (by decide +kernel) rfl (Nat.le_of_ble_eq_true rfl) (fun X E => ?_)
  unfold f_X6_readTell at h
  refine wa_aload_n 0 rfl E d_X6_readTell_0 ?_
  refine wa_getI fl_X6_40 k_v0 rfl E d_X6_readTell_1 ?_
  by_cases c_1 : (σ.1 v0 5) = 256
  · replace h := kf_ift c_1 h
    refine wa_tabIn (off := 52) (tgt := 56) (by rw [c_1]; decide) (by rw [c_1]; decide) (by rw [c_1]; rfl) (by decide) E d_X6_readTell_4 ?_
    refine wa_aload_n 0 rfl E d_X6_readTell_56 ?_
    obtain ⟨q_2, hq_2, h⟩ := kf_bd h
    refine wa_callV (st2 := []) (c_X6_readDoor hty v0 k_v0 σ hq_2) mv_X6_readDoor ml_X6_62 k_v0 rfl (Nat.le_of_ble_eq_true rfl) rfl (Nat.le_of_ble_eq_true rfl) E d_X6_readTell_57 rfl ?_
    refine wa_goto E d_X6_readTell_60 ?_
    exact b_X6_readTell_174 E hty v0 k_v0 q_2 h
  · replace h := kf_iff c_1 h
    by_cases c_3 : (σ.1 v0 5) = 257
    · replace h := kf_ift c_3 h
      refine wa_tabIn (off := 59) (tgt := 63) (by rw [c_3]; decide) (by rw [c_3]; decide) (by rw [c_3]; rfl) (by decide) E d_X6_readTell_4 ?_
      refine wa_aload_n 0 rfl E d_X6_readTell_63 ?_
      obtain ⟨q_4, hq_4, h⟩ := kf_bd h
      refine wa_callV (st2 := []) (c_X6_readCaller hty v0 k_v0 σ hq_4) mv_X6_readCaller ml_X6_65 k_v0 rfl (Nat.le_of_ble_eq_true rfl) rfl (Nat.le_of_ble_eq_true rfl) E d_X6_readTell_64 rfl ?_
      refine wa_goto E d_X6_readTell_67 ?_
      exact b_X6_readTell_174 E hty v0 k_v0 q_4 h
    · replace h := kf_iff c_3 h
      by_cases c_5 : (σ.1 v0 5) = 258
      · replace h := kf_ift c_5 h
        refine wa_tabIn (off := 66) (tgt := 70) (by rw [c_5]; decide) (by rw [c_5]; decide) (by rw [c_5]; rfl) (by decide) E d_X6_readTell_4 ?_
        refine wa_aload_n 0 rfl E d_X6_readTell_70 ?_
        obtain ⟨q_6, hq_6, h⟩ := kf_bd h
        refine wa_callV (st2 := []) (c_X6_readRound hty v0 k_v0 σ hq_6) mv_X6_readRound ml_X6_68 k_v0 rfl (Nat.le_of_ble_eq_true rfl) rfl (Nat.le_of_ble_eq_true rfl) E d_X6_readTell_71 rfl ?_
        refine wa_goto E d_X6_readTell_74 ?_
        exact b_X6_readTell_174 E hty v0 k_v0 q_6 h
      · replace h := kf_iff c_5 h
        by_cases c_7 : (σ.1 v0 5) = 259
        · replace h := kf_ift c_7 h
          refine wa_tabIn (off := 73) (tgt := 77) (by rw [c_7]; decide) (by rw [c_7]; decide) (by rw [c_7]; rfl) (by decide) E d_X6_readTell_4 ?_
          refine wa_aload_n 0 rfl E d_X6_readTell_77 ?_
          refine wa_aload_n 0 rfl E d_X6_readTell_78 ?_
          refine wa_getR fl_X6_15 k_v0 rfl E d_X6_readTell_79 ?_
          refine wa_getR fl_X6_71 (kf_wtf hty 3 10 k_v0 (by decide) rfl) rfl E d_X6_readTell_82 ?_
          obtain ⟨q_8, hq_8, h⟩ := kf_bd h
          refine wa_callV (st2 := []) (c_X6_readLaw hty v0 (kf_rf (kf_rf v0 3) 14) k_v0 (kf_wtf hty 14 2 (kf_wtf hty 3 10 k_v0 (by decide) rfl) (by decide) rfl) σ hq_8) mv_X6_readLaw ml_X6_75 k_v0 rfl (Nat.le_of_ble_eq_true rfl) rfl (Nat.le_of_ble_eq_true rfl) E d_X6_readTell_85 rfl ?_
          refine wa_goto E d_X6_readTell_88 ?_
          exact b_X6_readTell_174 E hty v0 k_v0 q_8 h
        · replace h := kf_iff c_7 h
          by_cases c_9 : (σ.1 v0 5) = 260
          · replace h := kf_ift c_9 h
            refine wa_tabIn (off := 87) (tgt := 91) (by rw [c_9]; decide) (by rw [c_9]; decide) (by rw [c_9]; rfl) (by decide) E d_X6_readTell_4 ?_
            refine wa_aload_n 0 rfl E d_X6_readTell_91 ?_
            refine wa_aload_n 0 rfl E d_X6_readTell_92 ?_
            refine wa_getR fl_X6_15 k_v0 rfl E d_X6_readTell_93 ?_
            refine wa_getR fl_X6_79 (kf_wtf hty 3 10 k_v0 (by decide) rfl) rfl E d_X6_readTell_96 ?_
            obtain ⟨q_10, hq_10, h⟩ := kf_bd h
            refine wa_callV (st2 := []) (c_X6_readLaw hty v0 (kf_rf (kf_rf v0 3) 15) k_v0 (kf_wtf hty 15 2 (kf_wtf hty 3 10 k_v0 (by decide) rfl) (by decide) rfl) σ hq_10) mv_X6_readLaw ml_X6_75 k_v0 rfl (Nat.le_of_ble_eq_true rfl) rfl (Nat.le_of_ble_eq_true rfl) E d_X6_readTell_99 rfl ?_
            refine wa_goto E d_X6_readTell_102 ?_
            exact b_X6_readTell_174 E hty v0 k_v0 q_10 h
          · replace h := kf_iff c_9 h
            by_cases c_11 : (σ.1 v0 5) = 261
            · replace h := kf_ift c_11 h
              refine wa_tabIn (off := 101) (tgt := 105) (by rw [c_11]; decide) (by rw [c_11]; decide) (by rw [c_11]; rfl) (by decide) E d_X6_readTell_4 ?_
              refine wa_aload_n 0 rfl E d_X6_readTell_105 ?_
              refine wa_aload_n 0 rfl E d_X6_readTell_106 ?_
              refine wa_getR fl_X6_15 k_v0 rfl E d_X6_readTell_107 ?_
              refine wa_getR fl_X6_82 (kf_wtf hty 3 10 k_v0 (by decide) rfl) rfl E d_X6_readTell_110 ?_
              obtain ⟨q_12, hq_12, h⟩ := kf_bd h
              refine wa_callV (st2 := []) (c_X6_readLaw hty v0 (kf_rf (kf_rf v0 3) 16) k_v0 (kf_wtf hty 16 2 (kf_wtf hty 3 10 k_v0 (by decide) rfl) (by decide) rfl) σ hq_12) mv_X6_readLaw ml_X6_75 k_v0 rfl (Nat.le_of_ble_eq_true rfl) rfl (Nat.le_of_ble_eq_true rfl) E d_X6_readTell_113 rfl ?_
              refine wa_goto E d_X6_readTell_116 ?_
              exact b_X6_readTell_174 E hty v0 k_v0 q_12 h
            · replace h := kf_iff c_11 h
              by_cases c_13 : (σ.1 v0 5) = 262
              · replace h := kf_ift c_13 h
                refine wa_tabIn (off := 115) (tgt := 119) (by rw [c_13]; decide) (by rw [c_13]; decide) (by rw [c_13]; rfl) (by decide) E d_X6_readTell_4 ?_
                refine wa_aload_n 0 rfl E d_X6_readTell_119 ?_
                refine wa_getR fl_X6_15 k_v0 rfl E d_X6_readTell_120 ?_
                refine wa_aload_n 0 rfl E d_X6_readTell_123 ?_
                refine wa_bipush 100 bp_100 E d_X6_readTell_124 ?_
                obtain ⟨q_14, hq_14, h⟩ := kf_bd h
                refine wa_callV (st2 := [.int q_14.1, .ref (kf_ad G (kf_rf v0 3))]) (c_X6_readSetting hty v0 100 k_v0 σ hq_14) mv_X6_readSetting ml_X6_85 k_v0 rfl (Nat.le_of_ble_eq_true rfl) rfl (Nat.le_of_ble_eq_true rfl) E d_X6_readTell_126 rfl ?_
                obtain ⟨σ_15, eσ_15, h⟩ := kf_lte h
                refine wa_putI fl_X6_88 fp_10_3 (kf_wtf hty 3 10 k_v0 (by decide) rfl) rfl (by decide) rfl rfl E d_X6_readTell_129 eσ_15 ?_
                refine wa_goto E d_X6_readTell_132 ?_
                exact b_X6_readTell_174 E hty v0 k_v0 σ_15 h
              · replace h := kf_iff c_13 h
                by_cases c_16 : (σ.1 v0 5) = 263
                · replace h := kf_ift c_16 h
                  refine wa_tabIn (off := 131) (tgt := 135) (by rw [c_16]; decide) (by rw [c_16]; decide) (by rw [c_16]; rfl) (by decide) E d_X6_readTell_4 ?_
                  refine wa_aload_n 0 rfl E d_X6_readTell_135 ?_
                  refine wa_getR fl_X6_15 k_v0 rfl E d_X6_readTell_136 ?_
                  refine wa_aload_n 0 rfl E d_X6_readTell_139 ?_
                  refine wa_sipush 396 sp_396 E d_X6_readTell_140 ?_
                  obtain ⟨q_17, hq_17, h⟩ := kf_bd h
                  refine wa_callV (st2 := [.int q_17.1, .ref (kf_ad G (kf_rf v0 3))]) (c_X6_readSetting hty v0 396 k_v0 σ hq_17) mv_X6_readSetting ml_X6_85 k_v0 rfl (Nat.le_of_ble_eq_true rfl) rfl (Nat.le_of_ble_eq_true rfl) E d_X6_readTell_143 rfl ?_
                  obtain ⟨σ_18, eσ_18, h⟩ := kf_lte h
                  refine wa_putI fl_X6_91 fp_10_4 (kf_wtf hty 3 10 k_v0 (by decide) rfl) rfl (by decide) rfl rfl E d_X6_readTell_146 eσ_18 ?_
                  refine wa_goto E d_X6_readTell_149 ?_
                  exact b_X6_readTell_174 E hty v0 k_v0 σ_18 h
                · replace h := kf_iff c_16 h
                  by_cases c_19 : (σ.1 v0 5) = 264
                  · replace h := kf_ift c_19 h
                    refine wa_tabIn (off := 148) (tgt := 152) (by rw [c_19]; decide) (by rw [c_19]; decide) (by rw [c_19]; rfl) (by decide) E d_X6_readTell_4 ?_
                    refine wa_aload_n 0 rfl E d_X6_readTell_152 ?_
                    refine wa_getR fl_X6_15 k_v0 rfl E d_X6_readTell_153 ?_
                    refine wa_aload_n 0 rfl E d_X6_readTell_156 ?_
                    refine wa_sipush 9999 sp_9999 E d_X6_readTell_157 ?_
                    obtain ⟨q_20, hq_20, h⟩ := kf_bd h
                    refine wa_callV (st2 := [.int q_20.1, .ref (kf_ad G (kf_rf v0 3))]) (c_X6_readSetting hty v0 9999 k_v0 σ hq_20) mv_X6_readSetting ml_X6_85 k_v0 rfl (Nat.le_of_ble_eq_true rfl) rfl (Nat.le_of_ble_eq_true rfl) E d_X6_readTell_160 rfl ?_
                    obtain ⟨σ_21, eσ_21, h⟩ := kf_lte h
                    refine wa_putI fl_X6_94 fp_10_5 (kf_wtf hty 3 10 k_v0 (by decide) rfl) rfl (by decide) rfl rfl E d_X6_readTell_163 eσ_21 ?_
                    refine wa_goto E d_X6_readTell_166 ?_
                    exact b_X6_readTell_174 E hty v0 k_v0 σ_21 h
                  · replace h := kf_iff c_19 h
                    refine wa_tabOut (tgt := 169) (kf_out [256, 257, 258, 259, 260, 261, 262, 263, 264] (by decide +kernel) (List.forall_mem_cons.mpr ⟨c_1, List.forall_mem_cons.mpr ⟨c_3, List.forall_mem_cons.mpr ⟨c_5, List.forall_mem_cons.mpr ⟨c_7, List.forall_mem_cons.mpr ⟨c_9, List.forall_mem_cons.mpr ⟨c_11, List.forall_mem_cons.mpr ⟨c_13, List.forall_mem_cons.mpr ⟨c_16, List.forall_mem_cons.mpr ⟨c_19, fun _ h => absurd h List.not_mem_nil⟩⟩⟩⟩⟩⟩⟩⟩⟩)) (by decide) E d_X6_readTell_4 ?_
                    refine wa_aload_n 0 rfl E d_X6_readTell_169 ?_
                    refine wa_iconst 1 ic_1 E d_X6_readTell_170 ?_
                    obtain ⟨q_22, hq_22, h⟩ := kf_bd h
                    refine wa_callV (st2 := []) (c_X6_fail hty v0 1 k_v0 σ hq_22) mv_X6_fail ml_X6_97 k_v0 rfl (Nat.le_of_ble_eq_true rfl) rfl (Nat.le_of_ble_eq_true rfl) E d_X6_readTell_171 rfl ?_
                    exact b_X6_readTell_174 E hty v0 k_v0 q_22 h
/-! X6_readWhole -/
theorem d_X6_readWhole_0 : kf_dq cX6_readWhole 0 1 1 (.aload_n 0) := ⟨by decide +kernel, rfl⟩
theorem d_X6_readWhole_1 : kf_dq cX6_readWhole 1 4 3 (.getfield 15) := ⟨by decide +kernel, rfl⟩
theorem d_X6_readWhole_4 : kf_dq cX6_readWhole 4 7 3 (.invokevirtual 23) := ⟨by decide +kernel, rfl⟩
theorem d_X6_readWhole_7 : kf_dq cX6_readWhole 7 8 1 (.aload_n 0) := ⟨by decide +kernel, rfl⟩
theorem d_X6_readWhole_8 : kf_dq cX6_readWhole 8 11 3 (.getfield 9) := ⟨by decide +kernel, rfl⟩
theorem d_X6_readWhole_11 : kf_dq cX6_readWhole 11 14 3 (.invokevirtual 28) := ⟨by decide +kernel, rfl⟩
theorem d_X6_readWhole_14 : kf_dq cX6_readWhole 14 15 1 (.aload_n 0) := ⟨by decide +kernel, rfl⟩
theorem d_X6_readWhole_15 : kf_dq cX6_readWhole 15 16 1 (.iconst 0) := ⟨by decide +kernel, rfl⟩
theorem d_X6_readWhole_16 : kf_dq cX6_readWhole 16 19 3 (.putfield 33) := ⟨by decide +kernel, rfl⟩
theorem d_X6_readWhole_19 : kf_dq cX6_readWhole 19 20 1 (.aload_n 0) := ⟨by decide +kernel, rfl⟩
theorem d_X6_readWhole_20 : kf_dq cX6_readWhole 20 21 1 (.aload_n 0) := ⟨by decide +kernel, rfl⟩
theorem d_X6_readWhole_21 : kf_dq cX6_readWhole 21 24 3 (.getfield 9) := ⟨by decide +kernel, rfl⟩
theorem d_X6_readWhole_24 : kf_dq cX6_readWhole 24 25 1 (.iconst 0) := ⟨by decide +kernel, rfl⟩
theorem d_X6_readWhole_25 : kf_dq cX6_readWhole 25 28 3 (.invokevirtual 36) := ⟨by decide +kernel, rfl⟩
theorem d_X6_readWhole_28 : kf_dq cX6_readWhole 28 31 3 (.putfield 40) := ⟨by decide +kernel, rfl⟩
theorem d_X6_readWhole_31 : kf_dq cX6_readWhole 31 32 1 (.aload_n 0) := ⟨by decide +kernel, rfl⟩
theorem d_X6_readWhole_32 : kf_dq cX6_readWhole 32 33 1 (.iconst 0) := ⟨by decide +kernel, rfl⟩
theorem d_X6_readWhole_33 : kf_dq cX6_readWhole 33 36 3 (.putfield 43) := ⟨by decide +kernel, rfl⟩
theorem d_X6_readWhole_36 : kf_dq cX6_readWhole 36 37 1 (.aload_n 0) := ⟨by decide +kernel, rfl⟩
theorem d_X6_readWhole_37 : kf_dq cX6_readWhole 37 38 1 (.iconst 0) := ⟨by decide +kernel, rfl⟩
theorem d_X6_readWhole_38 : kf_dq cX6_readWhole 38 41 3 (.putfield 46) := ⟨by decide +kernel, rfl⟩
theorem d_X6_readWhole_41 : kf_dq cX6_readWhole 41 42 1 (.aload_n 0) := ⟨by decide +kernel, rfl⟩
theorem d_X6_readWhole_42 : kf_dq cX6_readWhole 42 43 1 (.iconst (-1)) := ⟨by decide +kernel, rfl⟩
theorem d_X6_readWhole_43 : kf_dq cX6_readWhole 43 46 3 (.putfield 49) := ⟨by decide +kernel, rfl⟩
theorem d_X6_readWhole_46 : kf_dq cX6_readWhole 46 47 1 (.iconst 0) := ⟨by decide +kernel, rfl⟩
theorem d_X6_readWhole_47 : kf_dq cX6_readWhole 47 48 1 (.istore_n 1) := ⟨by decide +kernel, rfl⟩
theorem d_X6_readWhole_48 : kf_dq cX6_readWhole 48 49 1 (.iload_n 1) := ⟨by decide +kernel, rfl⟩
theorem d_X6_readWhole_49 : kf_dq cX6_readWhole 49 52 3 (.sipush 400) := ⟨by decide +kernel, rfl⟩
theorem d_X6_readWhole_52 : kf_dj cX6_readWhole 52 55 79 (.if_icmp .gt) := ⟨27, by decide +kernel, rfl, by decide⟩
theorem d_X6_readWhole_55 : kf_dq cX6_readWhole 55 56 1 (.aload_n 0) := ⟨by decide +kernel, rfl⟩
theorem d_X6_readWhole_56 : kf_dq cX6_readWhole 56 59 3 (.getfield 43) := ⟨by decide +kernel, rfl⟩
theorem d_X6_readWhole_59 : kf_dj cX6_readWhole 59 62 79 (.ifCond .ne) := ⟨20, by decide +kernel, rfl, by decide⟩
theorem d_X6_readWhole_62 : kf_dq cX6_readWhole 62 63 1 (.aload_n 0) := ⟨by decide +kernel, rfl⟩
theorem d_X6_readWhole_63 : kf_dq cX6_readWhole 63 66 3 (.getfield 40) := ⟨by decide +kernel, rfl⟩
theorem d_X6_readWhole_66 : kf_dj cX6_readWhole 66 69 79 (.ifCond .eq) := ⟨13, by decide +kernel, rfl, by decide⟩
theorem d_X6_readWhole_69 : kf_dq cX6_readWhole 69 70 1 (.aload_n 0) := ⟨by decide +kernel, rfl⟩
theorem d_X6_readWhole_70 : kf_dq cX6_readWhole 70 73 3 (.invokevirtual 52) := ⟨by decide +kernel, rfl⟩
theorem d_X6_readWhole_73 : kf_dq cX6_readWhole 73 76 3 (.iinc 1 1) := ⟨by decide +kernel, rfl⟩
theorem d_X6_readWhole_76 : kf_dj cX6_readWhole 76 79 48 .goto := ⟨(-28), by decide +kernel, rfl, by decide⟩
theorem d_X6_readWhole_79 : kf_dq cX6_readWhole 79 80 1 (.aload_n 0) := ⟨by decide +kernel, rfl⟩
theorem d_X6_readWhole_80 : kf_dq cX6_readWhole 80 81 1 (.aload_n 0) := ⟨by decide +kernel, rfl⟩
theorem d_X6_readWhole_81 : kf_dq cX6_readWhole 81 84 3 (.getfield 43) := ⟨by decide +kernel, rfl⟩
theorem d_X6_readWhole_84 : kf_dj cX6_readWhole 84 87 94 (.ifCond .ne) := ⟨10, by decide +kernel, rfl, by decide⟩
theorem d_X6_readWhole_87 : kf_dq cX6_readWhole 87 88 1 (.aload_n 0) := ⟨by decide +kernel, rfl⟩
theorem d_X6_readWhole_88 : kf_dq cX6_readWhole 88 91 3 (.getfield 49) := ⟨by decide +kernel, rfl⟩
theorem d_X6_readWhole_91 : kf_dj cX6_readWhole 91 94 105 .goto := ⟨14, by decide +kernel, rfl, by decide⟩
theorem d_X6_readWhole_94 : kf_dq cX6_readWhole 94 95 1 (.aload_n 0) := ⟨by decide +kernel, rfl⟩
theorem d_X6_readWhole_95 : kf_dq cX6_readWhole 95 98 3 (.getfield 9) := ⟨by decide +kernel, rfl⟩
theorem d_X6_readWhole_98 : kf_dq cX6_readWhole 98 99 1 (.aload_n 0) := ⟨by decide +kernel, rfl⟩
theorem d_X6_readWhole_99 : kf_dq cX6_readWhole 99 102 3 (.getfield 33) := ⟨by decide +kernel, rfl⟩
theorem d_X6_readWhole_102 : kf_dq cX6_readWhole 102 105 3 (.invokevirtual 55) := ⟨by decide +kernel, rfl⟩
theorem d_X6_readWhole_105 : kf_dq cX6_readWhole 105 108 3 (.putfield 19) := ⟨by decide +kernel, rfl⟩
theorem d_X6_readWhole_108 : kf_dq cX6_readWhole 108 109 1 (.aload_n 0) := ⟨by decide +kernel, rfl⟩
theorem d_X6_readWhole_109 : kf_dq cX6_readWhole 109 110 1 (.aload_n 0) := ⟨by decide +kernel, rfl⟩
theorem d_X6_readWhole_110 : kf_dq cX6_readWhole 110 113 3 (.getfield 43) := ⟨by decide +kernel, rfl⟩
theorem d_X6_readWhole_113 : kf_dj cX6_readWhole 113 116 123 (.ifCond .ne) := ⟨10, by decide +kernel, rfl, by decide⟩
theorem d_X6_readWhole_116 : kf_dq cX6_readWhole 116 117 1 (.aload_n 0) := ⟨by decide +kernel, rfl⟩
theorem d_X6_readWhole_117 : kf_dq cX6_readWhole 117 120 3 (.getfield 46) := ⟨by decide +kernel, rfl⟩
theorem d_X6_readWhole_120 : kf_dj cX6_readWhole 120 123 127 .goto := ⟨7, by decide +kernel, rfl, by decide⟩
theorem d_X6_readWhole_123 : kf_dq cX6_readWhole 123 124 1 (.aload_n 0) := ⟨by decide +kernel, rfl⟩
theorem d_X6_readWhole_124 : kf_dq cX6_readWhole 124 127 3 (.getfield 43) := ⟨by decide +kernel, rfl⟩
theorem d_X6_readWhole_127 : kf_dq cX6_readWhole 127 130 3 (.putfield 43) := ⟨by decide +kernel, rfl⟩
theorem d_X6_readWhole_130 : kf_dq cX6_readWhole 130 131 1 (.return_) := ⟨by decide +kernel, rfl⟩
def f_X6_readWhole_127 (s0 : Nat) (s1 : Int32) (σ : kf_St) : Option kf_St :=
  kf_lt (kf_wi σ s0 0 s1) fun σ_1 =>
  some σ_1
set_option maxRecDepth 100000 in
set_option maxHeartbeats 4000000 in
theorem b_X6_readWhole_127 {X : kf_X} {G : kf_G} {q : kf_St} (E : kf_ok X G cX6_readWhole RX6 2 none (40)) (hty : kf_wt G) (s0 : Nat) (s1 : Int32) (k_s0 : kf_kd G s0 = 7) (σ : kf_St) (h : f_X6_readWhole_127 s0 s1 σ = some q) : kf_WA X G 2 (kf_Q X G none q) 127 [] [.int s1, .ref (kf_ad G s0)] σ := by
  unfold f_X6_readWhole_127 at h
  obtain ⟨σ_1, eσ_1, h⟩ := kf_lte h
  refine wa_putI fl_X6_43 fp_6_0 k_s0 rfl (by decide) rfl rfl E d_X6_readWhole_127 eσ_1 ?_
  cases h
  exact wa_vret E d_X6_readWhole_130
def f_X6_readWhole_105 (v0 : Nat) (s0 : Nat) (s1 : Int32) (σ : kf_St) : Option kf_St :=
  kf_lt (kf_wi σ s0 1 s1) fun σ_1 =>
  if (σ_1.1 v0 0) = 0 then
    f_X6_readWhole_127 v0 (σ_1.1 v0 6) σ_1
  else
    f_X6_readWhole_127 v0 (σ_1.1 v0 0) σ_1
set_option maxRecDepth 100000 in
set_option maxHeartbeats 4000000 in
theorem b_X6_readWhole_105 {X : kf_X} {G : kf_G} {q : kf_St} (E : kf_ok X G cX6_readWhole RX6 2 none (40)) (hty : kf_wt G) (v0 : Nat) (s0 : Nat) (s1 : Int32) (k_v0 : kf_kd G v0 = 7) (k_s0 : kf_kd G s0 = 7) (σ : kf_St) (h : f_X6_readWhole_105 v0 s0 s1 σ = some q) : kf_WA X G 2 (kf_Q X G none q) 105 [(0, .ref (kf_ad G v0))] [.int s1, .ref (kf_ad G s0)] σ := by
  unfold f_X6_readWhole_105 at h
  obtain ⟨σ_1, eσ_1, h⟩ := kf_lte h
  refine wa_putI fl_X6_19 fp_6_1 k_s0 rfl (by decide) rfl rfl E d_X6_readWhole_105 eσ_1 ?_
  refine wa_aload_n 0 rfl E d_X6_readWhole_108 ?_
  refine wa_aload_n 0 rfl E d_X6_readWhole_109 ?_
  refine wa_getI fl_X6_43 k_v0 rfl E d_X6_readWhole_110 ?_
  refine wa_if_ne E d_X6_readWhole_113 (fun c_2 => ?_) (fun c_2 => ?_)
  · replace h := kf_iff c_2 h
    refine wa_aload_n 0 rfl E d_X6_readWhole_123 ?_
    refine wa_getI fl_X6_43 k_v0 rfl E d_X6_readWhole_124 ?_
    refine wa_sub [] rfl ?_
    exact b_X6_readWhole_127 E hty v0 (σ_1.1 v0 0) k_v0 σ_1 h
  · replace h := kf_ift c_2 h
    refine wa_aload_n 0 rfl E d_X6_readWhole_116 ?_
    refine wa_getI fl_X6_46 k_v0 rfl E d_X6_readWhole_117 ?_
    refine wa_goto E d_X6_readWhole_120 ?_
    refine wa_sub [] rfl ?_
    exact b_X6_readWhole_127 E hty v0 (σ_1.1 v0 6) k_v0 σ_1 h
def f_X6_readWhole_79 (v0 : Nat) (σ : kf_St) : Option kf_St :=
  if (σ.1 v0 0) = 0 then
    f_X6_readWhole_105 v0 v0 (σ.1 v0 7) σ
  else
    (f_X8_placeAt (kf_rf v0 2) (σ.1 v0 4) σ).bind fun q_2 =>
    f_X6_readWhole_105 v0 v0 q_2.1 q_2.2
set_option maxRecDepth 100000 in
set_option maxHeartbeats 4000000 in
theorem b_X6_readWhole_79 {X : kf_X} {G : kf_G} {q : kf_St} (E : kf_ok X G cX6_readWhole RX6 2 none (40)) (hty : kf_wt G) (v0 : Nat) (k_v0 : kf_kd G v0 = 7) (σ : kf_St) (h : f_X6_readWhole_79 v0 σ = some q) : kf_WA X G 2 (kf_Q X G none q) 79 [(0, .ref (kf_ad G v0))] [] σ := by
  unfold f_X6_readWhole_79 at h
  refine wa_aload_n 0 rfl E d_X6_readWhole_79 ?_
  refine wa_aload_n 0 rfl E d_X6_readWhole_80 ?_
  refine wa_getI fl_X6_43 k_v0 rfl E d_X6_readWhole_81 ?_
  refine wa_if_ne E d_X6_readWhole_84 (fun c_1 => ?_) (fun c_1 => ?_)
  · replace h := kf_iff c_1 h
    refine wa_aload_n 0 rfl E d_X6_readWhole_94 ?_
    refine wa_getR fl_X6_9 k_v0 rfl E d_X6_readWhole_95 ?_
    refine wa_aload_n 0 rfl E d_X6_readWhole_98 ?_
    refine wa_getI fl_X6_33 k_v0 rfl E d_X6_readWhole_99 ?_
    obtain ⟨q_2, hq_2, h⟩ := kf_bd h
    refine wa_callV (st2 := [.int q_2.1, .ref (kf_ad G v0)]) (c_X8_placeAt hty (kf_rf v0 2) (σ.1 v0 4) (kf_wtf hty 2 8 k_v0 (by decide) rfl) σ hq_2) mv_X8_placeAt ml_X6_55 (kf_wtf hty 2 8 k_v0 (by decide) rfl) rfl (Nat.le_of_ble_eq_true rfl) rfl (Nat.le_of_ble_eq_true rfl) E d_X6_readWhole_102 rfl ?_
    exact b_X6_readWhole_105 E hty v0 v0 q_2.1 k_v0 k_v0 q_2.2 h
  · replace h := kf_ift c_1 h
    refine wa_aload_n 0 rfl E d_X6_readWhole_87 ?_
    refine wa_getI fl_X6_49 k_v0 rfl E d_X6_readWhole_88 ?_
    refine wa_goto E d_X6_readWhole_91 ?_
    exact b_X6_readWhole_105 E hty v0 v0 (σ.1 v0 7) k_v0 k_v0 σ h
def f_X6_readWhole_48_s (rec48 : Nat → Int32 → kf_St → Option kf_St) (v0 : Nat) (v1 : Int32) (σ : kf_St) : Option kf_St :=
  if 400 < v1 then
    f_X6_readWhole_79 v0 σ
  else
    if (σ.1 v0 0) = 0 then
      if (σ.1 v0 5) = 0 then
        f_X6_readWhole_79 v0 σ
      else
        (f_X6_readTell v0 σ).bind fun q_4 =>
        kf_lt (v1 + 1) fun v1_5 =>
        rec48 v0 v1_5 q_4
    else
      f_X6_readWhole_79 v0 σ
def f_X6_readWhole_48 : Nat → Nat → Int32 → kf_St → Option kf_St
  | 0, _, _, _ => none
  | n + 1, v0, v1, σ => f_X6_readWhole_48_s (f_X6_readWhole_48 n) v0 v1 σ
set_option maxRecDepth 100000 in
set_option maxHeartbeats 4000000 in
theorem b_X6_readWhole_48_s {X : kf_X} {G : kf_G} (rec48 : Nat → Int32 → kf_St → Option kf_St) {q : kf_St} (E : kf_ok X G cX6_readWhole RX6 2 none (40)) (hty : kf_wt G) (hrec48 : ∀ (v0 : Nat) (v1 : Int32) (k_v0 : kf_kd G v0 = 7) (σ : kf_St), rec48 v0 v1 σ = some q → kf_WA X G 2 (kf_Q X G none q) 48 [(0, .ref (kf_ad G v0)), (1, .int v1)] [] σ) (v0 : Nat) (v1 : Int32) (k_v0 : kf_kd G v0 = 7) (σ : kf_St) (h : f_X6_readWhole_48_s rec48 v0 v1 σ = some q) : kf_WA X G 2 (kf_Q X G none q) 48 [(0, .ref (kf_ad G v0)), (1, .int v1)] [] σ := by
  unfold f_X6_readWhole_48_s at h
  refine wa_iload_n 1 rfl E d_X6_readWhole_48 ?_
  refine wa_sipush 400 sp_400 E d_X6_readWhole_49 ?_
  refine wa_icmp_gt E d_X6_readWhole_52 (fun c_1 => ?_) (fun c_1 => ?_)
  · replace h := kf_ift c_1 h
    refine wa_sub [0] rfl ?_
    exact b_X6_readWhole_79 E hty v0 k_v0 σ h
  · replace h := kf_iff c_1 h
    refine wa_aload_n 0 rfl E d_X6_readWhole_55 ?_
    refine wa_getI fl_X6_43 k_v0 rfl E d_X6_readWhole_56 ?_
    refine wa_if_ne E d_X6_readWhole_59 (fun c_2 => ?_) (fun c_2 => ?_)
    · replace h := kf_iff c_2 h
      refine wa_sub [0] rfl ?_
      exact b_X6_readWhole_79 E hty v0 k_v0 σ h
    · replace h := kf_ift c_2 h
      refine wa_aload_n 0 rfl E d_X6_readWhole_62 ?_
      refine wa_getI fl_X6_40 k_v0 rfl E d_X6_readWhole_63 ?_
      refine wa_if_eq E d_X6_readWhole_66 (fun c_3 => ?_) (fun c_3 => ?_)
      · replace h := kf_ift c_3 h
        refine wa_sub [0] rfl ?_
        exact b_X6_readWhole_79 E hty v0 k_v0 σ h
      · replace h := kf_iff c_3 h
        refine wa_aload_n 0 rfl E d_X6_readWhole_69 ?_
        obtain ⟨q_4, hq_4, h⟩ := kf_bd h
        refine wa_callV (st2 := []) (c_X6_readTell hty v0 k_v0 σ hq_4) mv_X6_readTell ml_X6_52 k_v0 rfl (Nat.le_of_ble_eq_true rfl) rfl (Nat.le_of_ble_eq_true rfl) E d_X6_readWhole_70 rfl ?_
        obtain ⟨v1_5, ev1_5, h⟩ := kf_lte h
        refine wa_iinc (lv' := [(1, .int v1_5), (0, .ref (kf_ad G v0))]) v1_5 1 rfl (kf_inc ic_1 ev1_5) (by decide) rfl E d_X6_readWhole_73 ?_
        refine wa_goto E d_X6_readWhole_76 ?_
        refine wa_sub [1, 0] rfl ?_
        exact hrec48 v0 v1_5 k_v0 q_4 h
theorem b_X6_readWhole_48 {X : kf_X} {G : kf_G} {q : kf_St} (E : kf_ok X G cX6_readWhole RX6 2 none (40)) (hty : kf_wt G) : ∀ (N : Nat) (v0 : Nat) (v1 : Int32) (k_v0 : kf_kd G v0 = 7) (σ : kf_St) (_ : f_X6_readWhole_48 N v0 v1 σ = some q), kf_WA X G 2 (kf_Q X G none q) 48 [(0, .ref (kf_ad G v0)), (1, .int v1)] [] σ
  | 0, _, _, _, _, h => by cases h
  | N + 1, v0, v1, k_v0, σ, h => b_X6_readWhole_48_s _ E hty (b_X6_readWhole_48 E hty N) v0 v1 k_v0 σ h
def f_X6_readWhole (v0 : Nat) (σ : kf_St) : Option kf_St :=
  (f_X10_clear (kf_rf v0 3) σ).bind fun q_1 =>
  (f_X8_cut (kf_rf v0 2) q_1).bind fun q_2 =>
  kf_lt (kf_wi q_2 v0 4 0) fun σ_3 =>
  (f_X8_kindAt (kf_rf v0 2) 0 σ_3).bind fun q_4 =>
  kf_lt (kf_wi q_4.2 v0 5 q_4.1) fun σ_5 =>
  kf_lt (kf_wi σ_5 v0 0 0) fun σ_6 =>
  kf_lt (kf_wi σ_6 v0 6 0) fun σ_7 =>
  kf_lt (kf_wi σ_7 v0 7 (-1)) fun σ_8 =>
  f_X6_readWhole_48 kf_F v0 0 σ_8
set_option maxRecDepth 100000 in
set_option maxHeartbeats 4000000 in
theorem c_X6_readWhole {G : kf_G} (hty : kf_wt G) (v0 : Nat) (k_v0 : kf_kd G v0 = 7) (σ : kf_St) {q : kf_St} (h : f_X6_readWhole v0 σ = some q) : kf_Ct (40) yX6_readWhole cX6_readWhole 2 none G [.ref (kf_ad G v0)] σ none q := by
  refine kf_Ct.of hty.1 (lv := [(0, .ref (kf_ad G v0))]) (by decide +kernel) rfl (Nat.le_of_ble_eq_true rfl) (fun X E => ?_)
  unfold f_X6_readWhole at h
  refine wa_aload_n 0 rfl E d_X6_readWhole_0 ?_
  refine wa_getR fl_X6_15 k_v0 rfl E d_X6_readWhole_1 ?_
  obtain ⟨q_1, hq_1, h⟩ := kf_bd h
  refine wa_callV (st2 := []) (c_X10_clear hty (kf_rf v0 3) (kf_wtf hty 3 10 k_v0 (by decide) rfl) σ hq_1) mv_X10_clear ml_X6_23 (kf_wtf hty 3 10 k_v0 (by decide) rfl) rfl (Nat.le_of_ble_eq_true rfl) rfl (Nat.le_of_ble_eq_true rfl) E d_X6_readWhole_4 rfl ?_
  refine wa_aload_n 0 rfl E d_X6_readWhole_7 ?_
  refine wa_getR fl_X6_9 k_v0 rfl E d_X6_readWhole_8 ?_
  obtain ⟨q_2, hq_2, h⟩ := kf_bd h
  refine wa_callV (st2 := []) (c_X8_cut hty (kf_rf v0 2) (kf_wtf hty 2 8 k_v0 (by decide) rfl) q_1 hq_2) mv_X8_cut ml_X6_28 (kf_wtf hty 2 8 k_v0 (by decide) rfl) rfl (Nat.le_of_ble_eq_true rfl) rfl (Nat.le_of_ble_eq_true rfl) E d_X6_readWhole_11 rfl ?_
  refine wa_aload_n 0 rfl E d_X6_readWhole_14 ?_
  refine wa_iconst 0 ic_0 E d_X6_readWhole_15 ?_
  obtain ⟨σ_3, eσ_3, h⟩ := kf_lte h
  refine wa_putI fl_X6_33 fp_6_4 k_v0 rfl (by decide) rfl rfl E d_X6_readWhole_16 eσ_3 ?_
  refine wa_aload_n 0 rfl E d_X6_readWhole_19 ?_
  refine wa_aload_n 0 rfl E d_X6_readWhole_20 ?_
  refine wa_getR fl_X6_9 k_v0 rfl E d_X6_readWhole_21 ?_
  refine wa_iconst 0 ic_0 E d_X6_readWhole_24 ?_
  obtain ⟨q_4, hq_4, h⟩ := kf_bd h
  refine wa_callV (st2 := [.int q_4.1, .ref (kf_ad G v0)]) (c_X8_kindAt hty (kf_rf v0 2) 0 (kf_wtf hty 2 8 k_v0 (by decide) rfl) σ_3 hq_4) mv_X8_kindAt ml_X6_36 (kf_wtf hty 2 8 k_v0 (by decide) rfl) rfl (Nat.le_of_ble_eq_true rfl) rfl (Nat.le_of_ble_eq_true rfl) E d_X6_readWhole_25 rfl ?_
  obtain ⟨σ_5, eσ_5, h⟩ := kf_lte h
  refine wa_putI fl_X6_40 fp_6_5 k_v0 rfl (by decide) rfl rfl E d_X6_readWhole_28 eσ_5 ?_
  refine wa_aload_n 0 rfl E d_X6_readWhole_31 ?_
  refine wa_iconst 0 ic_0 E d_X6_readWhole_32 ?_
  obtain ⟨σ_6, eσ_6, h⟩ := kf_lte h
  refine wa_putI fl_X6_43 fp_6_0 k_v0 rfl (by decide) rfl rfl E d_X6_readWhole_33 eσ_6 ?_
  refine wa_aload_n 0 rfl E d_X6_readWhole_36 ?_
  refine wa_iconst 0 ic_0 E d_X6_readWhole_37 ?_
  obtain ⟨σ_7, eσ_7, h⟩ := kf_lte h
  refine wa_putI fl_X6_46 fp_6_6 k_v0 rfl (by decide) rfl rfl E d_X6_readWhole_38 eσ_7 ?_
  refine wa_aload_n 0 rfl E d_X6_readWhole_41 ?_
  refine wa_iconst (-1) ic_m1 E d_X6_readWhole_42 ?_
  obtain ⟨σ_8, eσ_8, h⟩ := kf_lte h
  refine wa_putI fl_X6_49 fp_6_7 k_v0 rfl (by decide) rfl rfl E d_X6_readWhole_43 eσ_8 ?_
  refine wa_iconst 0 ic_0 E d_X6_readWhole_46 ?_
  refine wa_istore_n (lv' := [(1, .int 0), (0, .ref (kf_ad G v0))]) rfl (by decide) rfl E d_X6_readWhole_47 ?_
  refine wa_sub [1, 0] rfl ?_
  exact b_X6_readWhole_48 E hty kf_F v0 0 k_v0 σ_8 h
/-! X7_begin -/
theorem d_X7_begin_0 : kf_dq cX7_begin 0 1 1 (.iconst 0) := ⟨by decide +kernel, rfl⟩
theorem d_X7_begin_1 : kf_dq cX7_begin 1 2 1 (.istore_n 2) := ⟨by decide +kernel, rfl⟩
theorem d_X7_begin_2 : kf_dq cX7_begin 2 3 1 (.iload_n 2) := ⟨by decide +kernel, rfl⟩
theorem d_X7_begin_3 : kf_dq cX7_begin 3 5 2 (.bipush 6) := ⟨by decide +kernel, rfl⟩
theorem d_X7_begin_5 : kf_dj cX7_begin 5 8 28 (.if_icmp .ge) := ⟨23, by decide +kernel, rfl, by decide⟩
theorem d_X7_begin_8 : kf_dq cX7_begin 8 9 1 (.aload_n 0) := ⟨by decide +kernel, rfl⟩
theorem d_X7_begin_9 : kf_dq cX7_begin 9 12 3 (.getfield 11) := ⟨by decide +kernel, rfl⟩
theorem d_X7_begin_12 : kf_dq cX7_begin 12 13 1 (.iload_n 2) := ⟨by decide +kernel, rfl⟩
theorem d_X7_begin_13 : kf_dq cX7_begin 13 14 1 (.aaload) := ⟨by decide +kernel, rfl⟩
theorem d_X7_begin_14 : kf_dq cX7_begin 14 15 1 (.aload_n 1) := ⟨by decide +kernel, rfl⟩
theorem d_X7_begin_15 : kf_dq cX7_begin 15 18 3 (.getfield 25) := ⟨by decide +kernel, rfl⟩
theorem d_X7_begin_18 : kf_dq cX7_begin 18 19 1 (.iload_n 2) := ⟨by decide +kernel, rfl⟩
theorem d_X7_begin_19 : kf_dq cX7_begin 19 22 3 (.invokevirtual 30) := ⟨by decide +kernel, rfl⟩
theorem d_X7_begin_22 : kf_dq cX7_begin 22 25 3 (.iinc 2 1) := ⟨by decide +kernel, rfl⟩
theorem d_X7_begin_25 : kf_dj cX7_begin 25 28 2 .goto := ⟨(-23), by decide +kernel, rfl, by decide⟩
theorem d_X7_begin_28 : kf_dq cX7_begin 28 29 1 (.iconst 0) := ⟨by decide +kernel, rfl⟩
theorem d_X7_begin_29 : kf_dq cX7_begin 29 30 1 (.istore_n 2) := ⟨by decide +kernel, rfl⟩
theorem d_X7_begin_30 : kf_dq cX7_begin 30 31 1 (.iload_n 2) := ⟨by decide +kernel, rfl⟩
theorem d_X7_begin_31 : kf_dq cX7_begin 31 32 1 (.iconst 5) := ⟨by decide +kernel, rfl⟩
theorem d_X7_begin_32 : kf_dj cX7_begin 32 35 48 (.if_icmp .ge) := ⟨16, by decide +kernel, rfl, by decide⟩
theorem d_X7_begin_35 : kf_dq cX7_begin 35 36 1 (.aload_n 0) := ⟨by decide +kernel, rfl⟩
theorem d_X7_begin_36 : kf_dq cX7_begin 36 39 3 (.getfield 18) := ⟨by decide +kernel, rfl⟩
theorem d_X7_begin_39 : kf_dq cX7_begin 39 40 1 (.iload_n 2) := ⟨by decide +kernel, rfl⟩
theorem d_X7_begin_40 : kf_dq cX7_begin 40 41 1 (.iconst 0) := ⟨by decide +kernel, rfl⟩
theorem d_X7_begin_41 : kf_dq cX7_begin 41 42 1 (.iastore) := ⟨by decide +kernel, rfl⟩
theorem d_X7_begin_42 : kf_dq cX7_begin 42 45 3 (.iinc 2 1) := ⟨by decide +kernel, rfl⟩
theorem d_X7_begin_45 : kf_dj cX7_begin 45 48 30 .goto := ⟨(-15), by decide +kernel, rfl, by decide⟩
theorem d_X7_begin_48 : kf_dq cX7_begin 48 49 1 (.aload_n 0) := ⟨by decide +kernel, rfl⟩
theorem d_X7_begin_49 : kf_dq cX7_begin 49 50 1 (.iconst 1) := ⟨by decide +kernel, rfl⟩
theorem d_X7_begin_50 : kf_dq cX7_begin 50 51 1 (.aload_n 1) := ⟨by decide +kernel, rfl⟩
theorem d_X7_begin_51 : kf_dq cX7_begin 51 54 3 (.getfield 34) := ⟨by decide +kernel, rfl⟩
theorem d_X7_begin_54 : kf_dq cX7_begin 54 55 1 (.ishl) := ⟨by decide +kernel, rfl⟩
theorem d_X7_begin_55 : kf_dq cX7_begin 55 56 1 (.iconst 1) := ⟨by decide +kernel, rfl⟩
theorem d_X7_begin_56 : kf_dq cX7_begin 56 57 1 (.isub) := ⟨by decide +kernel, rfl⟩
theorem d_X7_begin_57 : kf_dq cX7_begin 57 60 3 (.putfield 38) := ⟨by decide +kernel, rfl⟩
theorem d_X7_begin_60 : kf_dq cX7_begin 60 61 1 (.aload_n 0) := ⟨by decide +kernel, rfl⟩
theorem d_X7_begin_61 : kf_dq cX7_begin 61 62 1 (.iconst 0) := ⟨by decide +kernel, rfl⟩
theorem d_X7_begin_62 : kf_dq cX7_begin 62 65 3 (.putfield 41) := ⟨by decide +kernel, rfl⟩
theorem d_X7_begin_65 : kf_dq cX7_begin 65 66 1 (.return_) := ⟨by decide +kernel, rfl⟩
def f_X7_begin_30_s (rec30 : Nat → Nat → Int32 → kf_St → Option kf_St) (v0 : Nat) (v1 : Nat) (v2 : Int32) (σ : kf_St) : Option kf_St :=
  if 5 ≤ v2 then
    kf_lt (kf_wi σ v0 2 (((1 : Int32) <<< ((σ.1 v1 2) &&& 31)) - 1)) fun σ_2 =>
    kf_lt (kf_wi σ_2 v0 3 0) fun σ_3 =>
    some σ_3
  else
    if kf_ix v2 (kf_ln (kf_rf v0 1)) = true then
    kf_lt (kf_wi σ (kf_rf v0 1) (Int32.toNatClampNeg v2) 0) fun σ_5 =>
    kf_lt (v2 + 1) fun v2_6 =>
    rec30 v0 v1 v2_6 σ_5
    else none
def f_X7_begin_30 : Nat → Nat → Nat → Int32 → kf_St → Option kf_St
  | 0, _, _, _, _ => none
  | n + 1, v0, v1, v2, σ => f_X7_begin_30_s (f_X7_begin_30 n) v0 v1 v2 σ
set_option maxRecDepth 100000 in
set_option maxHeartbeats 4000000 in
theorem b_X7_begin_30_s {X : kf_X} {G : kf_G} (rec30 : Nat → Nat → Int32 → kf_St → Option kf_St) {q : kf_St} (E : kf_ok X G cX7_begin RX7 3 none (2)) (hty : kf_wt G) (hrec30 : ∀ (v0 : Nat) (v1 : Nat) (v2 : Int32) (k_v0 : kf_kd G v0 = 8) (k_v1 : kf_kd G v1 = 11) (σ : kf_St), rec30 v0 v1 v2 σ = some q → kf_WA X G 3 (kf_Q X G none q) 30 [(0, .ref (kf_ad G v0)), (1, .ref (kf_ad G v1)), (2, .int v2)] [] σ) (v0 : Nat) (v1 : Nat) (v2 : Int32) (k_v0 : kf_kd G v0 = 8) (k_v1 : kf_kd G v1 = 11) (σ : kf_St) (h : f_X7_begin_30_s rec30 v0 v1 v2 σ = some q) : kf_WA X G 3 (kf_Q X G none q) 30 [(0, .ref (kf_ad G v0)), (1, .ref (kf_ad G v1)), (2, .int v2)] [] σ := by
  unfold f_X7_begin_30_s at h
  refine wa_iload_n 2 rfl E d_X7_begin_30 ?_
  refine wa_iconst 5 ic_5 E d_X7_begin_31 ?_
  refine wa_icmp_ge E d_X7_begin_32 (fun c_1 => ?_) (fun c_1 => ?_)
  · replace h := kf_ift c_1 h
    refine wa_aload_n 0 rfl E d_X7_begin_48 ?_
    refine wa_iconst 1 ic_1 E d_X7_begin_49 ?_
    refine wa_aload_n 1 rfl E d_X7_begin_50 ?_
    refine wa_getI fl_X7_34 k_v1 rfl E d_X7_begin_51 ?_
    refine wa_ishl E d_X7_begin_54 ?_
    refine wa_iconst 1 ic_1 E d_X7_begin_55 ?_
    refine wa_isub E d_X7_begin_56 ?_
    obtain ⟨σ_2, eσ_2, h⟩ := kf_lte h
    refine wa_putI fl_X7_38 fp_7_2 k_v0 rfl (by decide) rfl rfl E d_X7_begin_57 eσ_2 ?_
    refine wa_aload_n 0 rfl E d_X7_begin_60 ?_
    refine wa_iconst 0 ic_0 E d_X7_begin_61 ?_
    obtain ⟨σ_3, eσ_3, h⟩ := kf_lte h
    refine wa_putI fl_X7_41 fp_7_3 k_v0 rfl (by decide) rfl rfl E d_X7_begin_62 eσ_3 ?_
    cases h
    exact wa_vret E d_X7_begin_65
  · replace h := kf_iff c_1 h
    refine wa_aload_n 0 rfl E d_X7_begin_35 ?_
    refine wa_getR fl_X7_18 k_v0 rfl E d_X7_begin_36 ?_
    refine wa_iload_n 2 rfl E d_X7_begin_39 ?_
    refine wa_iconst 0 ic_0 E d_X7_begin_40 ?_
    obtain ⟨g_4, h⟩ := kf_gd h
    obtain ⟨σ_5, eσ_5, h⟩ := kf_lte h
    refine wa_iast (kf_wtf hty 1 49 k_v0 (by decide) rfl) g_4 E d_X7_begin_41 eσ_5 ?_
    obtain ⟨v2_6, ev2_6, h⟩ := kf_lte h
    refine wa_iinc (lv' := [(2, .int v2_6), (0, .ref (kf_ad G v0)), (1, .ref (kf_ad G v1))]) v2_6 2 rfl (kf_inc ic_1 ev2_6) (by decide) rfl E d_X7_begin_42 ?_
    refine wa_goto E d_X7_begin_45 ?_
    refine wa_sub [1, 2, 0] rfl ?_
    exact hrec30 v0 v1 v2_6 k_v0 k_v1 σ_5 h
theorem b_X7_begin_30 {X : kf_X} {G : kf_G} {q : kf_St} (E : kf_ok X G cX7_begin RX7 3 none (2)) (hty : kf_wt G) : ∀ (N : Nat) (v0 : Nat) (v1 : Nat) (v2 : Int32) (k_v0 : kf_kd G v0 = 8) (k_v1 : kf_kd G v1 = 11) (σ : kf_St) (_ : f_X7_begin_30 N v0 v1 v2 σ = some q), kf_WA X G 3 (kf_Q X G none q) 30 [(0, .ref (kf_ad G v0)), (1, .ref (kf_ad G v1)), (2, .int v2)] [] σ
  | 0, _, _, _, _, _, _, h => by cases h
  | N + 1, v0, v1, v2, k_v0, k_v1, σ, h => b_X7_begin_30_s _ E hty (b_X7_begin_30 E hty N) v0 v1 v2 k_v0 k_v1 σ h
def f_X7_begin_2_s (rec2 : Nat → Nat → Int32 → kf_St → Option kf_St) (v0 : Nat) (v1 : Nat) (v2 : Int32) (σ : kf_St) : Option kf_St :=
  if 6 ≤ v2 then
    f_X7_begin_30 kf_F v0 v1 0 σ
  else
    if kf_ix v2 (kf_ln (kf_rf v0 0)) = true then
    (f_X1_begin (kf_rf (kf_rf v0 0) (Int32.toNatClampNeg v2)) (kf_rf v1 8) v2 σ).bind fun q_3 =>
    kf_lt (v2 + 1) fun v2_4 =>
    rec2 v0 v1 v2_4 q_3
    else none
def f_X7_begin_2 : Nat → Nat → Nat → Int32 → kf_St → Option kf_St
  | 0, _, _, _, _ => none
  | n + 1, v0, v1, v2, σ => f_X7_begin_2_s (f_X7_begin_2 n) v0 v1 v2 σ
set_option maxRecDepth 100000 in
set_option maxHeartbeats 4000000 in
theorem b_X7_begin_2_s {X : kf_X} {G : kf_G} (rec2 : Nat → Nat → Int32 → kf_St → Option kf_St) {q : kf_St} (E : kf_ok X G cX7_begin RX7 3 none (2)) (hty : kf_wt G) (hrec2 : ∀ (v0 : Nat) (v1 : Nat) (v2 : Int32) (k_v0 : kf_kd G v0 = 8) (k_v1 : kf_kd G v1 = 11) (σ : kf_St), rec2 v0 v1 v2 σ = some q → kf_WA X G 3 (kf_Q X G none q) 2 [(0, .ref (kf_ad G v0)), (1, .ref (kf_ad G v1)), (2, .int v2)] [] σ) (v0 : Nat) (v1 : Nat) (v2 : Int32) (k_v0 : kf_kd G v0 = 8) (k_v1 : kf_kd G v1 = 11) (σ : kf_St) (h : f_X7_begin_2_s rec2 v0 v1 v2 σ = some q) : kf_WA X G 3 (kf_Q X G none q) 2 [(0, .ref (kf_ad G v0)), (1, .ref (kf_ad G v1)), (2, .int v2)] [] σ := by
  unfold f_X7_begin_2_s at h
  refine wa_iload_n 2 rfl E d_X7_begin_2 ?_
  refine wa_bipush 6 bp_6 E d_X7_begin_3 ?_
  refine wa_icmp_ge E d_X7_begin_5 (fun c_1 => ?_) (fun c_1 => ?_)
  · replace h := kf_ift c_1 h
    refine wa_iconst 0 ic_0 E d_X7_begin_28 ?_
    refine wa_istore_n (lv' := [(2, .int 0), (0, .ref (kf_ad G v0)), (1, .ref (kf_ad G v1))]) rfl (by decide) rfl E d_X7_begin_29 ?_
    refine wa_sub [1, 2, 0] rfl ?_
    exact b_X7_begin_30 E hty kf_F v0 v1 0 k_v0 k_v1 σ h
  · replace h := kf_iff c_1 h
    refine wa_aload_n 0 rfl E d_X7_begin_8 ?_
    refine wa_getR fl_X7_11 k_v0 rfl E d_X7_begin_9 ?_
    refine wa_iload_n 2 rfl E d_X7_begin_12 ?_
    obtain ⟨g_2, h⟩ := kf_gd h
    refine wa_aald (kf_wtf hty 0 53 k_v0 (by decide) rfl) g_2 E d_X7_begin_13 ?_
    refine wa_aload_n 1 rfl E d_X7_begin_14 ?_
    refine wa_getR fl_X7_25 k_v1 rfl E d_X7_begin_15 ?_
    refine wa_iload_n 2 rfl E d_X7_begin_18 ?_
    obtain ⟨q_3, hq_3, h⟩ := kf_bd h
    refine wa_callV (st2 := []) (c_X1_begin hty (kf_rf (kf_rf v0 0) (Int32.toNatClampNeg v2)) (kf_rf v1 8) v2 (kf_wta hty (kf_wtf hty 0 53 k_v0 (by decide) rfl) g_2) (kf_wtf hty 8 49 k_v1 (by decide) rfl) σ hq_3) mv_X1_begin ml_X7_30 (kf_wta hty (kf_wtf hty 0 53 k_v0 (by decide) rfl) g_2) rfl (Nat.le_of_ble_eq_true rfl) rfl (Nat.le_of_ble_eq_true rfl) E d_X7_begin_19 rfl ?_
    obtain ⟨v2_4, ev2_4, h⟩ := kf_lte h
    refine wa_iinc (lv' := [(2, .int v2_4), (0, .ref (kf_ad G v0)), (1, .ref (kf_ad G v1))]) v2_4 2 rfl (kf_inc ic_1 ev2_4) (by decide) rfl E d_X7_begin_22 ?_
    refine wa_goto E d_X7_begin_25 ?_
    refine wa_sub [1, 2, 0] rfl ?_
    exact hrec2 v0 v1 v2_4 k_v0 k_v1 q_3 h
theorem b_X7_begin_2 {X : kf_X} {G : kf_G} {q : kf_St} (E : kf_ok X G cX7_begin RX7 3 none (2)) (hty : kf_wt G) : ∀ (N : Nat) (v0 : Nat) (v1 : Nat) (v2 : Int32) (k_v0 : kf_kd G v0 = 8) (k_v1 : kf_kd G v1 = 11) (σ : kf_St) (_ : f_X7_begin_2 N v0 v1 v2 σ = some q), kf_WA X G 3 (kf_Q X G none q) 2 [(0, .ref (kf_ad G v0)), (1, .ref (kf_ad G v1)), (2, .int v2)] [] σ
  | 0, _, _, _, _, _, _, h => by cases h
  | N + 1, v0, v1, v2, k_v0, k_v1, σ, h => b_X7_begin_2_s _ E hty (b_X7_begin_2 E hty N) v0 v1 v2 k_v0 k_v1 σ h
def f_X7_begin (v0 : Nat) (v1 : Nat) (σ : kf_St) : Option kf_St :=
  f_X7_begin_2 kf_F v0 v1 0 σ
set_option maxRecDepth 100000 in
set_option maxHeartbeats 4000000 in
theorem c_X7_begin {G : kf_G} (hty : kf_wt G) (v0 : Nat) (v1 : Nat) (k_v0 : kf_kd G v0 = 8) (k_v1 : kf_kd G v1 = 11) (σ : kf_St) {q : kf_St} (h : f_X7_begin v0 v1 σ = some q) : kf_Ct (2) yX7_begin cX7_begin 3 none G [.ref (kf_ad G v0), .ref (kf_ad G v1)] σ none q := by
  refine kf_Ct.of hty.1 (lv := [(0, .ref (kf_ad G v0)), (1, .ref (kf_ad G v1))]) (by decide +kernel) rfl (Nat.le_of_ble_eq_true rfl) (fun X E => ?_)
  unfold f_X7_begin at h
  refine wa_iconst 0 ic_0 E d_X7_begin_0 ?_
  refine wa_istore_n (lv' := [(2, .int 0), (0, .ref (kf_ad G v0)), (1, .ref (kf_ad G v1))]) rfl (by decide) rfl E d_X7_begin_1 ?_
  refine wa_sub [1, 2, 0] rfl ?_
  exact b_X7_begin_2 E hty kf_F v0 v1 0 k_v0 k_v1 σ h
/-! X7_offFirst -/
theorem d_X7_offFirst_0 : kf_dq cX7_offFirst 0 1 1 (.aload_n 0) := ⟨by decide +kernel, rfl⟩
theorem d_X7_offFirst_1 : kf_dq cX7_offFirst 1 4 3 (.getfield 11) := ⟨by decide +kernel, rfl⟩
theorem d_X7_offFirst_4 : kf_dq cX7_offFirst 4 5 1 (.iload_n 1) := ⟨by decide +kernel, rfl⟩
theorem d_X7_offFirst_5 : kf_dq cX7_offFirst 5 6 1 (.aaload) := ⟨by decide +kernel, rfl⟩
theorem d_X7_offFirst_6 : kf_dq cX7_offFirst 6 9 3 (.getfield 44) := ⟨by decide +kernel, rfl⟩
theorem d_X7_offFirst_9 : kf_dq cX7_offFirst 9 10 1 (.iconst 0) := ⟨by decide +kernel, rfl⟩
theorem d_X7_offFirst_10 : kf_dq cX7_offFirst 10 11 1 (.aload_n 2) := ⟨by decide +kernel, rfl⟩
theorem d_X7_offFirst_11 : kf_dq cX7_offFirst 11 14 3 (.getfield 25) := ⟨by decide +kernel, rfl⟩
theorem d_X7_offFirst_14 : kf_dq cX7_offFirst 14 15 1 (.iload_n 1) := ⟨by decide +kernel, rfl⟩
theorem d_X7_offFirst_15 : kf_dq cX7_offFirst 15 18 3 (.invokestatic 47) := ⟨by decide +kernel, rfl⟩
theorem d_X7_offFirst_18 : kf_dq cX7_offFirst 18 19 1 (.ireturn) := ⟨by decide +kernel, rfl⟩
def f_X7_offFirst (v0 : Nat) (v1 : Int32) (v2 : Nat) (σ : kf_St) : Option (Int32 × kf_St) :=
  if kf_ix v1 (kf_ln (kf_rf v0 0)) = true then
  (f_X10_difference (kf_rf (kf_rf (kf_rf v0 0) (Int32.toNatClampNeg v1)) 0) 0 (kf_rf v2 8) v1 σ).bind fun q_2 =>
  some (q_2.1, q_2.2)
  else none
set_option maxRecDepth 100000 in
set_option maxHeartbeats 4000000 in
theorem c_X7_offFirst {G : kf_G} (hty : kf_wt G) (v0 : Nat) (v1 : Int32) (v2 : Nat) (k_v0 : kf_kd G v0 = 8) (k_v2 : kf_kd G v2 = 11) (σ : kf_St) {q : (Int32 × kf_St)} (h : f_X7_offFirst v0 v1 v2 σ = some q) : kf_Ct (2) yX7_offFirst cX7_offFirst 3 (some .int) G [.ref (kf_ad G v0), .int v1, .ref (kf_ad G v2)] σ (some (.int q.1)) q.2 := by
  refine kf_Ct.of hty.1 (lv := [(0, .ref (kf_ad G v0)), (1, .int v1), (2, .ref (kf_ad G v2))]) (by decide +kernel) rfl (Nat.le_of_ble_eq_true rfl) (fun X E => ?_)
  unfold f_X7_offFirst at h
  refine wa_aload_n 0 rfl E d_X7_offFirst_0 ?_
  refine wa_getR fl_X7_11 k_v0 rfl E d_X7_offFirst_1 ?_
  refine wa_iload_n 1 rfl E d_X7_offFirst_4 ?_
  obtain ⟨g_1, h⟩ := kf_gd h
  refine wa_aald (kf_wtf hty 0 53 k_v0 (by decide) rfl) g_1 E d_X7_offFirst_5 ?_
  refine wa_getR fl_X7_44 (kf_wta hty (kf_wtf hty 0 53 k_v0 (by decide) rfl) g_1) rfl E d_X7_offFirst_6 ?_
  refine wa_iconst 0 ic_0 E d_X7_offFirst_9 ?_
  refine wa_aload_n 2 rfl E d_X7_offFirst_10 ?_
  refine wa_getR fl_X7_25 k_v2 rfl E d_X7_offFirst_11 ?_
  refine wa_iload_n 1 rfl E d_X7_offFirst_14 ?_
  obtain ⟨q_2, hq_2, h⟩ := kf_bd h
  refine wa_callS (st2 := [.int q_2.1]) (c_X10_difference hty (kf_rf (kf_rf (kf_rf v0 0) (Int32.toNatClampNeg v1)) 0) 0 (kf_rf v2 8) v1 (kf_wtf hty 0 49 (kf_wta hty (kf_wtf hty 0 53 k_v0 (by decide) rfl) g_1) (by decide) rfl) (kf_wtf hty 8 49 k_v2 (by decide) rfl) σ hq_2) mt_X10_difference ml_X7_47 rfl (Nat.le_of_ble_eq_true rfl) rfl (Nat.le_of_ble_eq_true rfl) E d_X7_offFirst_15 rfl ?_
  cases h
  exact wa_iret E d_X7_offFirst_18
/-! X7_facesInRow -/
theorem d_X7_facesInRow_0 : kf_dq cX7_facesInRow 0 1 1 (.iconst 0) := ⟨by decide +kernel, rfl⟩
theorem d_X7_facesInRow_1 : kf_dq cX7_facesInRow 1 2 1 (.istore_n 1) := ⟨by decide +kernel, rfl⟩
theorem d_X7_facesInRow_2 : kf_dq cX7_facesInRow 2 3 1 (.iload_n 1) := ⟨by decide +kernel, rfl⟩
theorem d_X7_facesInRow_3 : kf_dq cX7_facesInRow 3 5 2 (.bipush 6) := ⟨by decide +kernel, rfl⟩
theorem d_X7_facesInRow_5 : kf_dj cX7_facesInRow 5 8 35 (.if_icmp .ge) := ⟨30, by decide +kernel, rfl, by decide⟩
theorem d_X7_facesInRow_8 : kf_dq cX7_facesInRow 8 9 1 (.aload_n 0) := ⟨by decide +kernel, rfl⟩
theorem d_X7_facesInRow_9 : kf_dq cX7_facesInRow 9 12 3 (.getfield 11) := ⟨by decide +kernel, rfl⟩
theorem d_X7_facesInRow_12 : kf_dq cX7_facesInRow 12 13 1 (.iload_n 1) := ⟨by decide +kernel, rfl⟩
theorem d_X7_facesInRow_13 : kf_dq cX7_facesInRow 13 14 1 (.aaload) := ⟨by decide +kernel, rfl⟩
theorem d_X7_facesInRow_14 : kf_dq cX7_facesInRow 14 17 3 (.getfield 44) := ⟨by decide +kernel, rfl⟩
theorem d_X7_facesInRow_17 : kf_dq cX7_facesInRow 17 18 1 (.iconst 0) := ⟨by decide +kernel, rfl⟩
theorem d_X7_facesInRow_18 : kf_dq cX7_facesInRow 18 19 1 (.aload_n 0) := ⟨by decide +kernel, rfl⟩
theorem d_X7_facesInRow_19 : kf_dq cX7_facesInRow 19 22 3 (.getfield 22) := ⟨by decide +kernel, rfl⟩
theorem d_X7_facesInRow_22 : kf_dq cX7_facesInRow 22 23 1 (.iconst 4) := ⟨by decide +kernel, rfl⟩
theorem d_X7_facesInRow_23 : kf_dq cX7_facesInRow 23 24 1 (.iload_n 1) := ⟨by decide +kernel, rfl⟩
theorem d_X7_facesInRow_24 : kf_dq cX7_facesInRow 24 25 1 (.imul) := ⟨by decide +kernel, rfl⟩
theorem d_X7_facesInRow_25 : kf_dq cX7_facesInRow 25 26 1 (.iconst 4) := ⟨by decide +kernel, rfl⟩
theorem d_X7_facesInRow_26 : kf_dq cX7_facesInRow 26 29 3 (.invokestatic 51) := ⟨by decide +kernel, rfl⟩
theorem d_X7_facesInRow_29 : kf_dq cX7_facesInRow 29 32 3 (.iinc 1 1) := ⟨by decide +kernel, rfl⟩
theorem d_X7_facesInRow_32 : kf_dj cX7_facesInRow 32 35 2 .goto := ⟨(-30), by decide +kernel, rfl, by decide⟩
theorem d_X7_facesInRow_35 : kf_dq cX7_facesInRow 35 36 1 (.aload_n 0) := ⟨by decide +kernel, rfl⟩
theorem d_X7_facesInRow_36 : kf_dq cX7_facesInRow 36 39 3 (.getfield 22) := ⟨by decide +kernel, rfl⟩
theorem d_X7_facesInRow_39 : kf_dq cX7_facesInRow 39 40 1 (.areturn) := ⟨by decide +kernel, rfl⟩
def f_X7_facesInRow_2_s (rec2 : Nat → Int32 → kf_St → Option kf_St) (v0 : Nat) (v1 : Int32) (σ : kf_St) : Option kf_St :=
  if 6 ≤ v1 then
    some σ
  else
    if kf_ix v1 (kf_ln (kf_rf v0 0)) = true then
    if kf_cok 0 (4 * v1) 4 (kf_ln (kf_rf (kf_rf (kf_rf v0 0) (Int32.toNatClampNeg v1)) 0)) (kf_ln (kf_rf v0 4)) = true then
    kf_lt (kf_ci σ (kf_rf (kf_rf (kf_rf v0 0) (Int32.toNatClampNeg v1)) 0) (kf_rf v0 4) (Int32.toNatClampNeg 0) (Int32.toNatClampNeg (4 * v1)) (Int32.toNatClampNeg 4)) fun σ_4 =>
    kf_lt (v1 + 1) fun v1_5 =>
    rec2 v0 v1_5 σ_4
    else none
    else none
def f_X7_facesInRow_2 : Nat → Nat → Int32 → kf_St → Option kf_St
  | 0, _, _, _ => none
  | n + 1, v0, v1, σ => f_X7_facesInRow_2_s (f_X7_facesInRow_2 n) v0 v1 σ
set_option maxRecDepth 100000 in
set_option maxHeartbeats 4000000 in
theorem b_X7_facesInRow_2_s {X : kf_X} {G : kf_G} (rec2 : Nat → Int32 → kf_St → Option kf_St) {q : kf_St} (E : kf_ok X G cX7_facesInRow RX7 2 (some (.array .int)) (1)) (hty : kf_wt G) (hrec2 : ∀ (v0 : Nat) (v1 : Int32) (k_v0 : kf_kd G v0 = 8) (σ : kf_St), rec2 v0 v1 σ = some q → kf_WA X G 2 (kf_Q X G (some (.ref (kf_ad G (kf_rf v0 4)))) q) 2 [(0, .ref (kf_ad G v0)), (1, .int v1)] [] σ) (v0 : Nat) (v1 : Int32) (k_v0 : kf_kd G v0 = 8) (σ : kf_St) (h : f_X7_facesInRow_2_s rec2 v0 v1 σ = some q) : kf_WA X G 2 (kf_Q X G (some (.ref (kf_ad G (kf_rf v0 4)))) q) 2 [(0, .ref (kf_ad G v0)), (1, .int v1)] [] σ := by
  unfold f_X7_facesInRow_2_s at h
  refine wa_iload_n 1 rfl E d_X7_facesInRow_2 ?_
  refine wa_bipush 6 bp_6 E d_X7_facesInRow_3 ?_
  refine wa_icmp_ge E d_X7_facesInRow_5 (fun c_1 => ?_) (fun c_1 => ?_)
  · replace h := kf_ift c_1 h
    refine wa_aload_n 0 rfl E d_X7_facesInRow_35 ?_
    refine wa_getR fl_X7_22 k_v0 rfl E d_X7_facesInRow_36 ?_
    cases h
    exact wa_aret (Or.inr ⟨_, rfl⟩) E d_X7_facesInRow_39
  · replace h := kf_iff c_1 h
    refine wa_aload_n 0 rfl E d_X7_facesInRow_8 ?_
    refine wa_getR fl_X7_11 k_v0 rfl E d_X7_facesInRow_9 ?_
    refine wa_iload_n 1 rfl E d_X7_facesInRow_12 ?_
    obtain ⟨g_2, h⟩ := kf_gd h
    refine wa_aald (kf_wtf hty 0 53 k_v0 (by decide) rfl) g_2 E d_X7_facesInRow_13 ?_
    refine wa_getR fl_X7_44 (kf_wta hty (kf_wtf hty 0 53 k_v0 (by decide) rfl) g_2) rfl E d_X7_facesInRow_14 ?_
    refine wa_iconst 0 ic_0 E d_X7_facesInRow_17 ?_
    refine wa_aload_n 0 rfl E d_X7_facesInRow_18 ?_
    refine wa_getR fl_X7_22 k_v0 rfl E d_X7_facesInRow_19 ?_
    refine wa_iconst 4 ic_4 E d_X7_facesInRow_22 ?_
    refine wa_iload_n 1 rfl E d_X7_facesInRow_23 ?_
    refine wa_imul E d_X7_facesInRow_24 ?_
    refine wa_iconst 4 ic_4 E d_X7_facesInRow_25 ?_
    obtain ⟨g_3, h⟩ := kf_gd h
    obtain ⟨σ_4, eσ_4, h⟩ := kf_lte h
    refine wa_copyi cw_X7_51 (kf_wtf hty 0 49 (kf_wta hty (kf_wtf hty 0 53 k_v0 (by decide) rfl) g_2) (by decide) rfl) (kf_wtf hty 4 49 k_v0 (by decide) rfl) g_3 (Nat.le_of_ble_eq_true rfl) (Nat.le_of_ble_eq_true rfl) E d_X7_facesInRow_26 eσ_4 ?_
    obtain ⟨v1_5, ev1_5, h⟩ := kf_lte h
    refine wa_iinc (lv' := [(1, .int v1_5), (0, .ref (kf_ad G v0))]) v1_5 1 rfl (kf_inc ic_1 ev1_5) (by decide) rfl E d_X7_facesInRow_29 ?_
    refine wa_goto E d_X7_facesInRow_32 ?_
    refine wa_sub [1, 0] rfl ?_
    exact hrec2 v0 v1_5 k_v0 σ_4 h
theorem b_X7_facesInRow_2 {X : kf_X} {G : kf_G} {q : kf_St} (E : kf_ok X G cX7_facesInRow RX7 2 (some (.array .int)) (1)) (hty : kf_wt G) : ∀ (N : Nat) (v0 : Nat) (v1 : Int32) (k_v0 : kf_kd G v0 = 8) (σ : kf_St) (_ : f_X7_facesInRow_2 N v0 v1 σ = some q), kf_WA X G 2 (kf_Q X G (some (.ref (kf_ad G (kf_rf v0 4)))) q) 2 [(0, .ref (kf_ad G v0)), (1, .int v1)] [] σ
  | 0, _, _, _, _, h => by cases h
  | N + 1, v0, v1, k_v0, σ, h => b_X7_facesInRow_2_s _ E hty (b_X7_facesInRow_2 E hty N) v0 v1 k_v0 σ h
def f_X7_facesInRow (v0 : Nat) (σ : kf_St) : Option kf_St :=
  f_X7_facesInRow_2 kf_F v0 0 σ
set_option maxRecDepth 100000 in
set_option maxHeartbeats 4000000 in
theorem c_X7_facesInRow {G : kf_G} (hty : kf_wt G) (v0 : Nat) (k_v0 : kf_kd G v0 = 8) (σ : kf_St) {q : kf_St} (h : f_X7_facesInRow v0 σ = some q) : kf_Ct (1) yX7_facesInRow cX7_facesInRow 2 (some (.array .int)) G [.ref (kf_ad G v0)] σ (some (.ref (kf_ad G (kf_rf v0 4)))) q := by
  refine kf_Ct.of hty.1 (lv := [(0, .ref (kf_ad G v0))]) (by decide +kernel) rfl (Nat.le_of_ble_eq_true rfl) (fun X E => ?_)
  unfold f_X7_facesInRow at h
  refine wa_iconst 0 ic_0 E d_X7_facesInRow_0 ?_
  refine wa_istore_n (lv' := [(1, .int 0), (0, .ref (kf_ad G v0))]) rfl (by decide) rfl E d_X7_facesInRow_1 ?_
  refine wa_sub [1, 0] rfl ?_
  exact b_X7_facesInRow_2 E hty kf_F v0 0 k_v0 σ h
/-! X8_hasRoomFor -/
theorem d_X8_hasRoomFor_0 : kf_dq cX8_hasRoomFor 0 1 1 (.aload_n 0) := ⟨by decide +kernel, rfl⟩
theorem d_X8_hasRoomFor_1 : kf_dq cX8_hasRoomFor 1 4 3 (.getfield 51) := ⟨by decide +kernel, rfl⟩
theorem d_X8_hasRoomFor_4 : kf_dq cX8_hasRoomFor 4 5 1 (.iload_n 1) := ⟨by decide +kernel, rfl⟩
theorem d_X8_hasRoomFor_5 : kf_dq cX8_hasRoomFor 5 6 1 (.iadd) := ⟨by decide +kernel, rfl⟩
theorem d_X8_hasRoomFor_6 : kf_dq cX8_hasRoomFor 6 9 3 (.sipush 2000) := ⟨by decide +kernel, rfl⟩
theorem d_X8_hasRoomFor_9 : kf_dj cX8_hasRoomFor 9 12 16 (.if_icmp .gt) := ⟨7, by decide +kernel, rfl, by decide⟩
theorem d_X8_hasRoomFor_12 : kf_dq cX8_hasRoomFor 12 13 1 (.iconst 1) := ⟨by decide +kernel, rfl⟩
theorem d_X8_hasRoomFor_13 : kf_dj cX8_hasRoomFor 13 16 17 .goto := ⟨4, by decide +kernel, rfl, by decide⟩
theorem d_X8_hasRoomFor_16 : kf_dq cX8_hasRoomFor 16 17 1 (.iconst 0) := ⟨by decide +kernel, rfl⟩
theorem d_X8_hasRoomFor_17 : kf_dq cX8_hasRoomFor 17 18 1 (.ireturn) := ⟨by decide +kernel, rfl⟩
def f_X8_hasRoomFor (v0 : Nat) (v1 : Int32) (σ : kf_St) : Option (Int32 × kf_St) :=
  if 2000 < ((σ.1 v0 0) + v1) then
    some (0, σ)
  else
    some (1, σ)
set_option maxRecDepth 100000 in
set_option maxHeartbeats 4000000 in
theorem c_X8_hasRoomFor {G : kf_G} (hty : kf_wt G) (v0 : Nat) (v1 : Int32) (k_v0 : kf_kd G v0 = 9) (σ : kf_St) {q : (Int32 × kf_St)} (h : f_X8_hasRoomFor v0 v1 σ = some q) : kf_Ct (1) yX8_hasRoomFor cX8_hasRoomFor 2 (some .boolean) G [.ref (kf_ad G v0), .int v1] σ (some (.int q.1)) q.2 := by
  refine kf_Ct.of hty.1 (lv := [(0, .ref (kf_ad G v0)), (1, .int v1)]) (by decide +kernel) rfl (Nat.le_of_ble_eq_true rfl) (fun X E => ?_)
  unfold f_X8_hasRoomFor at h
  refine wa_aload_n 0 rfl E d_X8_hasRoomFor_0 ?_
  refine wa_getI fl_X8_51 k_v0 rfl E d_X8_hasRoomFor_1 ?_
  refine wa_iload_n 1 rfl E d_X8_hasRoomFor_4 ?_
  refine wa_iadd E d_X8_hasRoomFor_5 ?_
  refine wa_sipush 2000 sp_2000 E d_X8_hasRoomFor_6 ?_
  refine wa_icmp_gt E d_X8_hasRoomFor_9 (fun c_1 => ?_) (fun c_1 => ?_)
  · replace h := kf_ift c_1 h
    refine wa_iconst 0 ic_0 E d_X8_hasRoomFor_16 ?_
    cases h
    exact wa_zret kf_z0 E d_X8_hasRoomFor_17
  · replace h := kf_iff c_1 h
    refine wa_iconst 1 ic_1 E d_X8_hasRoomFor_12 ?_
    refine wa_goto E d_X8_hasRoomFor_13 ?_
    cases h
    exact wa_zret kf_z1 E d_X8_hasRoomFor_17
/-! X8_addFour -/
theorem d_X8_addFour_0 : kf_dq cX8_addFour 0 2 2 (.bipush 24) := ⟨by decide +kernel, rfl⟩
theorem d_X8_addFour_2 : kf_dq cX8_addFour 2 3 1 (.istore_n 2) := ⟨by decide +kernel, rfl⟩
theorem d_X8_addFour_3 : kf_dq cX8_addFour 3 4 1 (.iload_n 2) := ⟨by decide +kernel, rfl⟩
theorem d_X8_addFour_4 : kf_dj cX8_addFour 4 7 55 (.ifCond .lt) := ⟨51, by decide +kernel, rfl, by decide⟩
theorem d_X8_addFour_7 : kf_dq cX8_addFour 7 8 1 (.aload_n 0) := ⟨by decide +kernel, rfl⟩
theorem d_X8_addFour_8 : kf_dq cX8_addFour 8 11 3 (.getfield 51) := ⟨by decide +kernel, rfl⟩
theorem d_X8_addFour_11 : kf_dj cX8_addFour 11 14 49 (.ifCond .lt) := ⟨38, by decide +kernel, rfl, by decide⟩
theorem d_X8_addFour_14 : kf_dq cX8_addFour 14 15 1 (.aload_n 0) := ⟨by decide +kernel, rfl⟩
theorem d_X8_addFour_15 : kf_dq cX8_addFour 15 18 3 (.getfield 51) := ⟨by decide +kernel, rfl⟩
theorem d_X8_addFour_18 : kf_dq cX8_addFour 18 19 1 (.aload_n 0) := ⟨by decide +kernel, rfl⟩
theorem d_X8_addFour_19 : kf_dq cX8_addFour 19 22 3 (.getfield 11) := ⟨by decide +kernel, rfl⟩
theorem d_X8_addFour_22 : kf_dq cX8_addFour 22 23 1 (.arraylength) := ⟨by decide +kernel, rfl⟩
theorem d_X8_addFour_23 : kf_dj cX8_addFour 23 26 49 (.if_icmp .ge) := ⟨26, by decide +kernel, rfl, by decide⟩
theorem d_X8_addFour_26 : kf_dq cX8_addFour 26 27 1 (.aload_n 0) := ⟨by decide +kernel, rfl⟩
theorem d_X8_addFour_27 : kf_dq cX8_addFour 27 30 3 (.getfield 11) := ⟨by decide +kernel, rfl⟩
theorem d_X8_addFour_30 : kf_dq cX8_addFour 30 31 1 (.aload_n 0) := ⟨by decide +kernel, rfl⟩
theorem d_X8_addFour_31 : kf_dq cX8_addFour 31 34 3 (.getfield 51) := ⟨by decide +kernel, rfl⟩
theorem d_X8_addFour_34 : kf_dq cX8_addFour 34 35 1 (.iload_n 1) := ⟨by decide +kernel, rfl⟩
theorem d_X8_addFour_35 : kf_dq cX8_addFour 35 36 1 (.iload_n 2) := ⟨by decide +kernel, rfl⟩
theorem d_X8_addFour_36 : kf_dq cX8_addFour 36 37 1 (.iushr) := ⟨by decide +kernel, rfl⟩
theorem d_X8_addFour_37 : kf_dq cX8_addFour 37 38 1 (.i2b) := ⟨by decide +kernel, rfl⟩
theorem d_X8_addFour_38 : kf_dq cX8_addFour 38 39 1 (.bastore) := ⟨by decide +kernel, rfl⟩
theorem d_X8_addFour_39 : kf_dq cX8_addFour 39 40 1 (.aload_n 0) := ⟨by decide +kernel, rfl⟩
theorem d_X8_addFour_40 : kf_dq cX8_addFour 40 41 1 (.dup) := ⟨by decide +kernel, rfl⟩
theorem d_X8_addFour_41 : kf_dq cX8_addFour 41 44 3 (.getfield 51) := ⟨by decide +kernel, rfl⟩
theorem d_X8_addFour_44 : kf_dq cX8_addFour 44 45 1 (.iconst 1) := ⟨by decide +kernel, rfl⟩
theorem d_X8_addFour_45 : kf_dq cX8_addFour 45 46 1 (.iadd) := ⟨by decide +kernel, rfl⟩
theorem d_X8_addFour_46 : kf_dq cX8_addFour 46 49 3 (.putfield 51) := ⟨by decide +kernel, rfl⟩
theorem d_X8_addFour_49 : kf_dq cX8_addFour 49 52 3 (.iinc 2 (-8)) := ⟨by decide +kernel, rfl⟩
theorem d_X8_addFour_52 : kf_dj cX8_addFour 52 55 3 .goto := ⟨(-49), by decide +kernel, rfl, by decide⟩
theorem d_X8_addFour_55 : kf_dq cX8_addFour 55 56 1 (.return_) := ⟨by decide +kernel, rfl⟩
def f_X8_addFour_49 (rec3 : Nat → Int32 → Int32 → kf_St → Option kf_St) (v0 : Nat) (v1 : Int32) (v2 : Int32) (σ : kf_St) : Option kf_St :=
  kf_lt (v2 + (-8)) fun v2_1 =>
  rec3 v0 v1 v2_1 σ
set_option maxRecDepth 100000 in
set_option maxHeartbeats 4000000 in
theorem b_X8_addFour_49 {X : kf_X} {G : kf_G} {rec3 : Nat → Int32 → Int32 → kf_St → Option kf_St} {q : kf_St} (E : kf_ok X G cX8_addFour RX8 3 none (1)) (hty : kf_wt G) (hrec3 : ∀ (v0 : Nat) (v1 : Int32) (v2 : Int32) (k_v0 : kf_kd G v0 = 9) (σ : kf_St), rec3 v0 v1 v2 σ = some q → kf_WA X G 3 (kf_Q X G none q) 3 [(0, .ref (kf_ad G v0)), (1, .int v1), (2, .int v2)] [] σ) (v0 : Nat) (v1 : Int32) (v2 : Int32) (k_v0 : kf_kd G v0 = 9) (σ : kf_St) (h : f_X8_addFour_49 rec3 v0 v1 v2 σ = some q) : kf_WA X G 3 (kf_Q X G none q) 49 [(0, .ref (kf_ad G v0)), (1, .int v1), (2, .int v2)] [] σ := by
  unfold f_X8_addFour_49 at h
  obtain ⟨v2_1, ev2_1, h⟩ := kf_lte h
  refine wa_iinc (lv' := [(2, .int v2_1), (0, .ref (kf_ad G v0)), (1, .int v1)]) v2_1 2 rfl (kf_inc ic_m8 ev2_1) (by decide) rfl E d_X8_addFour_49 ?_
  refine wa_goto E d_X8_addFour_52 ?_
  refine wa_sub [1, 2, 0] rfl ?_
  exact hrec3 v0 v1 v2_1 k_v0 σ h
def f_X8_addFour_3_s (rec3 : Nat → Int32 → Int32 → kf_St → Option kf_St) (v0 : Nat) (v1 : Int32) (v2 : Int32) (σ : kf_St) : Option kf_St :=
  if v2 < 0 then
    some σ
  else
    if (σ.1 v0 0) < 0 then
      f_X8_addFour_49 rec3 v0 v1 v2 σ
    else
      if (nI (kf_ln (kf_rf v0 1))) ≤ (σ.1 v0 0) then
        f_X8_addFour_49 rec3 v0 v1 v2 σ
      else
        if kf_ix (σ.1 v0 0) (kf_ln (kf_rf v0 1)) = true then
        kf_lt (kf_wi σ (kf_rf v0 1) (Int32.toNatClampNeg (σ.1 v0 0)) (vp_nar .byte (Int32.toInt8 ((Int32.toUInt32 v1) >>> ((Int32.toUInt32 v2) &&& Int32.toUInt32 31)).toInt32).toInt32)) fun σ_5 =>
        kf_lt (kf_wi σ_5 v0 0 ((σ_5.1 v0 0) + 1)) fun σ_6 =>
        f_X8_addFour_49 rec3 v0 v1 v2 σ_6
        else none
def f_X8_addFour_3 : Nat → Nat → Int32 → Int32 → kf_St → Option kf_St
  | 0, _, _, _, _ => none
  | n + 1, v0, v1, v2, σ => f_X8_addFour_3_s (f_X8_addFour_3 n) v0 v1 v2 σ
set_option maxRecDepth 100000 in
set_option maxHeartbeats 4000000 in
theorem b_X8_addFour_3_s {X : kf_X} {G : kf_G} (rec3 : Nat → Int32 → Int32 → kf_St → Option kf_St) {q : kf_St} (E : kf_ok X G cX8_addFour RX8 3 none (1)) (hty : kf_wt G) (hrec3 : ∀ (v0 : Nat) (v1 : Int32) (v2 : Int32) (k_v0 : kf_kd G v0 = 9) (σ : kf_St), rec3 v0 v1 v2 σ = some q → kf_WA X G 3 (kf_Q X G none q) 3 [(0, .ref (kf_ad G v0)), (1, .int v1), (2, .int v2)] [] σ) (v0 : Nat) (v1 : Int32) (v2 : Int32) (k_v0 : kf_kd G v0 = 9) (σ : kf_St) (h : f_X8_addFour_3_s rec3 v0 v1 v2 σ = some q) : kf_WA X G 3 (kf_Q X G none q) 3 [(0, .ref (kf_ad G v0)), (1, .int v1), (2, .int v2)] [] σ := by
  unfold f_X8_addFour_3_s at h
  refine wa_iload_n 2 rfl E d_X8_addFour_3 ?_
  refine wa_if_lt E d_X8_addFour_4 (fun c_1 => ?_) (fun c_1 => ?_)
  · replace h := kf_ift c_1 h
    cases h
    exact wa_vret E d_X8_addFour_55
  · replace h := kf_iff c_1 h
    refine wa_aload_n 0 rfl E d_X8_addFour_7 ?_
    refine wa_getI fl_X8_51 k_v0 rfl E d_X8_addFour_8 ?_
    refine wa_if_lt E d_X8_addFour_11 (fun c_2 => ?_) (fun c_2 => ?_)
    · replace h := kf_ift c_2 h
      exact b_X8_addFour_49 E hty hrec3 v0 v1 v2 k_v0 σ h
    · replace h := kf_iff c_2 h
      refine wa_aload_n 0 rfl E d_X8_addFour_14 ?_
      refine wa_getI fl_X8_51 k_v0 rfl E d_X8_addFour_15 ?_
      refine wa_aload_n 0 rfl E d_X8_addFour_18 ?_
      refine wa_getR fl_X8_11 k_v0 rfl E d_X8_addFour_19 ?_
      refine wa_alen_b (kf_wtf hty 1 51 k_v0 (by decide) rfl) E d_X8_addFour_22 ?_
      refine wa_icmp_ge E d_X8_addFour_23 (fun c_3 => ?_) (fun c_3 => ?_)
      · replace h := kf_ift c_3 h
        exact b_X8_addFour_49 E hty hrec3 v0 v1 v2 k_v0 σ h
      · replace h := kf_iff c_3 h
        refine wa_aload_n 0 rfl E d_X8_addFour_26 ?_
        refine wa_getR fl_X8_11 k_v0 rfl E d_X8_addFour_27 ?_
        refine wa_aload_n 0 rfl E d_X8_addFour_30 ?_
        refine wa_getI fl_X8_51 k_v0 rfl E d_X8_addFour_31 ?_
        refine wa_iload_n 1 rfl E d_X8_addFour_34 ?_
        refine wa_iload_n 2 rfl E d_X8_addFour_35 ?_
        refine wa_iushr E d_X8_addFour_36 ?_
        refine wa_i2b E d_X8_addFour_37 ?_
        obtain ⟨g_4, h⟩ := kf_gd h
        obtain ⟨σ_5, eσ_5, h⟩ := kf_lte h
        refine wa_bast (kf_wtf hty 1 51 k_v0 (by decide) rfl) g_4 E d_X8_addFour_38 eσ_5 ?_
        refine wa_aload_n 0 rfl E d_X8_addFour_39 ?_
        refine wa_dup rfl E d_X8_addFour_40 ?_
        refine wa_getI fl_X8_51 k_v0 rfl E d_X8_addFour_41 ?_
        refine wa_iconst 1 ic_1 E d_X8_addFour_44 ?_
        refine wa_iadd E d_X8_addFour_45 ?_
        obtain ⟨σ_6, eσ_6, h⟩ := kf_lte h
        refine wa_putI fl_X8_51 fp_8_0 k_v0 rfl (by decide) rfl rfl E d_X8_addFour_46 eσ_6 ?_
        exact b_X8_addFour_49 E hty hrec3 v0 v1 v2 k_v0 σ_6 h
theorem b_X8_addFour_3 {X : kf_X} {G : kf_G} {q : kf_St} (E : kf_ok X G cX8_addFour RX8 3 none (1)) (hty : kf_wt G) : ∀ (N : Nat) (v0 : Nat) (v1 : Int32) (v2 : Int32) (k_v0 : kf_kd G v0 = 9) (σ : kf_St) (_ : f_X8_addFour_3 N v0 v1 v2 σ = some q), kf_WA X G 3 (kf_Q X G none q) 3 [(0, .ref (kf_ad G v0)), (1, .int v1), (2, .int v2)] [] σ
  | 0, _, _, _, _, _, h => by cases h
  | N + 1, v0, v1, v2, k_v0, σ, h => b_X8_addFour_3_s _ E hty (b_X8_addFour_3 E hty N) v0 v1 v2 k_v0 σ h
def f_X8_addFour (v0 : Nat) (v1 : Int32) (σ : kf_St) : Option kf_St :=
  f_X8_addFour_3 kf_F v0 v1 24 σ
set_option maxRecDepth 100000 in
set_option maxHeartbeats 4000000 in
theorem c_X8_addFour {G : kf_G} (hty : kf_wt G) (v0 : Nat) (v1 : Int32) (k_v0 : kf_kd G v0 = 9) (σ : kf_St) {q : kf_St} (h : f_X8_addFour v0 v1 σ = some q) : kf_Ct (1) yX8_addFour cX8_addFour 3 none G [.ref (kf_ad G v0), .int v1] σ none q := by
  refine kf_Ct.of hty.1 (lv := [(0, .ref (kf_ad G v0)), (1, .int v1)]) (by decide +kernel) rfl (Nat.le_of_ble_eq_true rfl) (fun X E => ?_)
  unfold f_X8_addFour at h
  refine wa_bipush 24 bp_24 E d_X8_addFour_0 ?_
  refine wa_istore_n (lv' := [(2, .int 24), (0, .ref (kf_ad G v0)), (1, .int v1)]) rfl (by decide) rfl E d_X8_addFour_2 ?_
  refine wa_sub [1, 2, 0] rfl ?_
  exact b_X8_addFour_3 E hty kf_F v0 v1 24 k_v0 σ h
/-! X9_note -/
theorem d_X9_note_0 : kf_dq cX9_note 0 1 1 (.aload_n 0) := ⟨by decide +kernel, rfl⟩
theorem d_X9_note_1 : kf_dq cX9_note 1 4 3 (.getfield 36) := ⟨by decide +kernel, rfl⟩
theorem d_X9_note_4 : kf_dj cX9_note 4 7 16 (.ifCond .lt) := ⟨12, by decide +kernel, rfl, by decide⟩
theorem d_X9_note_7 : kf_dq cX9_note 7 8 1 (.aload_n 0) := ⟨by decide +kernel, rfl⟩
theorem d_X9_note_8 : kf_dq cX9_note 8 11 3 (.getfield 36) := ⟨by decide +kernel, rfl⟩
theorem d_X9_note_11 : kf_dq cX9_note 11 13 2 (.bipush 20) := ⟨by decide +kernel, rfl⟩
theorem d_X9_note_13 : kf_dj cX9_note 13 16 18 (.if_icmp .lt) := ⟨5, by decide +kernel, rfl, by decide⟩
theorem d_X9_note_16 : kf_dq cX9_note 16 17 1 (.iconst (-1)) := ⟨by decide +kernel, rfl⟩
theorem d_X9_note_17 : kf_dq cX9_note 17 18 1 (.ireturn) := ⟨by decide +kernel, rfl⟩
theorem d_X9_note_18 : kf_dq cX9_note 18 19 1 (.aload_n 0) := ⟨by decide +kernel, rfl⟩
theorem d_X9_note_19 : kf_dq cX9_note 19 22 3 (.getfield 23) := ⟨by decide +kernel, rfl⟩
theorem d_X9_note_22 : kf_dq cX9_note 22 23 1 (.aload_n 0) := ⟨by decide +kernel, rfl⟩
theorem d_X9_note_23 : kf_dq cX9_note 23 26 3 (.getfield 36) := ⟨by decide +kernel, rfl⟩
theorem d_X9_note_26 : kf_dq cX9_note 26 27 1 (.iload_n 1) := ⟨by decide +kernel, rfl⟩
theorem d_X9_note_27 : kf_dq cX9_note 27 28 1 (.iastore) := ⟨by decide +kernel, rfl⟩
theorem d_X9_note_28 : kf_dq cX9_note 28 29 1 (.aload_n 0) := ⟨by decide +kernel, rfl⟩
theorem d_X9_note_29 : kf_dq cX9_note 29 32 3 (.getfield 27) := ⟨by decide +kernel, rfl⟩
theorem d_X9_note_32 : kf_dq cX9_note 32 33 1 (.aload_n 0) := ⟨by decide +kernel, rfl⟩
theorem d_X9_note_33 : kf_dq cX9_note 33 36 3 (.getfield 36) := ⟨by decide +kernel, rfl⟩
theorem d_X9_note_36 : kf_dq cX9_note 36 37 1 (.iload_n 2) := ⟨by decide +kernel, rfl⟩
theorem d_X9_note_37 : kf_dq cX9_note 37 38 1 (.iastore) := ⟨by decide +kernel, rfl⟩
theorem d_X9_note_38 : kf_dq cX9_note 38 39 1 (.aload_n 0) := ⟨by decide +kernel, rfl⟩
theorem d_X9_note_39 : kf_dq cX9_note 39 42 3 (.getfield 30) := ⟨by decide +kernel, rfl⟩
theorem d_X9_note_42 : kf_dq cX9_note 42 43 1 (.aload_n 0) := ⟨by decide +kernel, rfl⟩
theorem d_X9_note_43 : kf_dq cX9_note 43 46 3 (.getfield 36) := ⟨by decide +kernel, rfl⟩
theorem d_X9_note_46 : kf_dq cX9_note 46 47 1 (.iload_n 3) := ⟨by decide +kernel, rfl⟩
theorem d_X9_note_47 : kf_dq cX9_note 47 48 1 (.iastore) := ⟨by decide +kernel, rfl⟩
theorem d_X9_note_48 : kf_dq cX9_note 48 49 1 (.aload_n 0) := ⟨by decide +kernel, rfl⟩
theorem d_X9_note_49 : kf_dq cX9_note 49 50 1 (.dup) := ⟨by decide +kernel, rfl⟩
theorem d_X9_note_50 : kf_dq cX9_note 50 53 3 (.getfield 36) := ⟨by decide +kernel, rfl⟩
theorem d_X9_note_53 : kf_dq cX9_note 53 54 1 (.iconst 1) := ⟨by decide +kernel, rfl⟩
theorem d_X9_note_54 : kf_dq cX9_note 54 55 1 (.iadd) := ⟨by decide +kernel, rfl⟩
theorem d_X9_note_55 : kf_dq cX9_note 55 58 3 (.putfield 36) := ⟨by decide +kernel, rfl⟩
theorem d_X9_note_58 : kf_dq cX9_note 58 59 1 (.aload_n 0) := ⟨by decide +kernel, rfl⟩
theorem d_X9_note_59 : kf_dq cX9_note 59 62 3 (.getfield 36) := ⟨by decide +kernel, rfl⟩
theorem d_X9_note_62 : kf_dq cX9_note 62 63 1 (.iconst 1) := ⟨by decide +kernel, rfl⟩
theorem d_X9_note_63 : kf_dq cX9_note 63 64 1 (.isub) := ⟨by decide +kernel, rfl⟩
theorem d_X9_note_64 : kf_dq cX9_note 64 65 1 (.ireturn) := ⟨by decide +kernel, rfl⟩
def f_X9_note (v0 : Nat) (v1 : Int32) (v2 : Int32) (v3 : Int32) (σ : kf_St) : Option (Int32 × kf_St) :=
  if (σ.1 v0 0) < 0 then
    some ((-1), σ)
  else
    if (σ.1 v0 0) < 20 then
      if kf_ix (σ.1 v0 0) (kf_ln (kf_rf v0 4)) = true then
      kf_lt (kf_wi σ (kf_rf v0 4) (Int32.toNatClampNeg (σ.1 v0 0)) v1) fun σ_4 =>
      if kf_ix (σ_4.1 v0 0) (kf_ln (kf_rf v0 5)) = true then
      kf_lt (kf_wi σ_4 (kf_rf v0 5) (Int32.toNatClampNeg (σ_4.1 v0 0)) v2) fun σ_6 =>
      if kf_ix (σ_6.1 v0 0) (kf_ln (kf_rf v0 6)) = true then
      kf_lt (kf_wi σ_6 (kf_rf v0 6) (Int32.toNatClampNeg (σ_6.1 v0 0)) v3) fun σ_8 =>
      kf_lt (kf_wi σ_8 v0 0 ((σ_8.1 v0 0) + 1)) fun σ_9 =>
      some (((σ_9.1 v0 0) - 1), σ_9)
      else none
      else none
      else none
    else
      some ((-1), σ)
set_option maxRecDepth 100000 in
set_option maxHeartbeats 4000000 in
theorem c_X9_note {G : kf_G} (hty : kf_wt G) (v0 : Nat) (v1 : Int32) (v2 : Int32) (v3 : Int32) (k_v0 : kf_kd G v0 = 10) (σ : kf_St) {q : (Int32 × kf_St)} (h : f_X9_note v0 v1 v2 v3 σ = some q) : kf_Ct (1) yX9_note cX9_note 4 (some .int) G [.ref (kf_ad G v0), .int v1, .int v2, .int v3] σ (some (.int q.1)) q.2 := by
  refine kf_Ct.of hty.1 (lv := [(0, .ref (kf_ad G v0)), (1, .int v1), (2, .int v2), (3, .int v3)]) (by decide +kernel) rfl (Nat.le_of_ble_eq_true rfl) (fun X E => ?_)
  unfold f_X9_note at h
  refine wa_aload_n 0 rfl E d_X9_note_0 ?_
  refine wa_getI fl_X9_36 k_v0 rfl E d_X9_note_1 ?_
  refine wa_if_lt E d_X9_note_4 (fun c_1 => ?_) (fun c_1 => ?_)
  · replace h := kf_ift c_1 h
    refine wa_iconst (-1) ic_m1 E d_X9_note_16 ?_
    cases h
    exact wa_iret E d_X9_note_17
  · replace h := kf_iff c_1 h
    refine wa_aload_n 0 rfl E d_X9_note_7 ?_
    refine wa_getI fl_X9_36 k_v0 rfl E d_X9_note_8 ?_
    refine wa_bipush 20 bp_20 E d_X9_note_11 ?_
    refine wa_icmp_lt E d_X9_note_13 (fun c_2 => ?_) (fun c_2 => ?_)
    · replace h := kf_ift c_2 h
      refine wa_aload_n 0 rfl E d_X9_note_18 ?_
      refine wa_getR fl_X9_23 k_v0 rfl E d_X9_note_19 ?_
      refine wa_aload_n 0 rfl E d_X9_note_22 ?_
      refine wa_getI fl_X9_36 k_v0 rfl E d_X9_note_23 ?_
      refine wa_iload_n 1 rfl E d_X9_note_26 ?_
      obtain ⟨g_3, h⟩ := kf_gd h
      obtain ⟨σ_4, eσ_4, h⟩ := kf_lte h
      refine wa_iast (kf_wtf hty 4 49 k_v0 (by decide) rfl) g_3 E d_X9_note_27 eσ_4 ?_
      refine wa_aload_n 0 rfl E d_X9_note_28 ?_
      refine wa_getR fl_X9_27 k_v0 rfl E d_X9_note_29 ?_
      refine wa_aload_n 0 rfl E d_X9_note_32 ?_
      refine wa_getI fl_X9_36 k_v0 rfl E d_X9_note_33 ?_
      refine wa_iload_n 2 rfl E d_X9_note_36 ?_
      obtain ⟨g_5, h⟩ := kf_gd h
      obtain ⟨σ_6, eσ_6, h⟩ := kf_lte h
      refine wa_iast (kf_wtf hty 5 49 k_v0 (by decide) rfl) g_5 E d_X9_note_37 eσ_6 ?_
      refine wa_aload_n 0 rfl E d_X9_note_38 ?_
      refine wa_getR fl_X9_30 k_v0 rfl E d_X9_note_39 ?_
      refine wa_aload_n 0 rfl E d_X9_note_42 ?_
      refine wa_getI fl_X9_36 k_v0 rfl E d_X9_note_43 ?_
      refine wa_iload_n 3 rfl E d_X9_note_46 ?_
      obtain ⟨g_7, h⟩ := kf_gd h
      obtain ⟨σ_8, eσ_8, h⟩ := kf_lte h
      refine wa_iast (kf_wtf hty 6 49 k_v0 (by decide) rfl) g_7 E d_X9_note_47 eσ_8 ?_
      refine wa_aload_n 0 rfl E d_X9_note_48 ?_
      refine wa_dup rfl E d_X9_note_49 ?_
      refine wa_getI fl_X9_36 k_v0 rfl E d_X9_note_50 ?_
      refine wa_iconst 1 ic_1 E d_X9_note_53 ?_
      refine wa_iadd E d_X9_note_54 ?_
      obtain ⟨σ_9, eσ_9, h⟩ := kf_lte h
      refine wa_putI fl_X9_36 fp_9_0 k_v0 rfl (by decide) rfl rfl E d_X9_note_55 eσ_9 ?_
      refine wa_aload_n 0 rfl E d_X9_note_58 ?_
      refine wa_getI fl_X9_36 k_v0 rfl E d_X9_note_59 ?_
      refine wa_iconst 1 ic_1 E d_X9_note_62 ?_
      refine wa_isub E d_X9_note_63 ?_
      cases h
      exact wa_iret E d_X9_note_64
    · replace h := kf_iff c_2 h
      refine wa_iconst (-1) ic_m1 E d_X9_note_16 ?_
      cases h
      exact wa_iret E d_X9_note_17
/-! X9_wayOf -/
theorem d_X9_wayOf_0 : kf_dq cX9_wayOf 0 1 1 (.aload_n 0) := ⟨by decide +kernel, rfl⟩
theorem d_X9_wayOf_1 : kf_dq cX9_wayOf 1 4 3 (.getfield 15) := ⟨by decide +kernel, rfl⟩
theorem d_X9_wayOf_4 : kf_dq cX9_wayOf 4 7 3 (.getfield 40) := ⟨by decide +kernel, rfl⟩
theorem d_X9_wayOf_7 : kf_dq cX9_wayOf 7 8 1 (.iload_n 1) := ⟨by decide +kernel, rfl⟩
theorem d_X9_wayOf_8 : kf_dq cX9_wayOf 8 9 1 (.aaload) := ⟨by decide +kernel, rfl⟩
theorem d_X9_wayOf_9 : kf_dq cX9_wayOf 9 11 2 (.astore 4) := ⟨by decide +kernel, rfl⟩
theorem d_X9_wayOf_11 : kf_dq cX9_wayOf 11 12 1 (.aload_n 0) := ⟨by decide +kernel, rfl⟩
theorem d_X9_wayOf_12 : kf_dq cX9_wayOf 12 15 3 (.getfield 19) := ⟨by decide +kernel, rfl⟩
theorem d_X9_wayOf_15 : kf_dq cX9_wayOf 15 16 1 (.aload_n 0) := ⟨by decide +kernel, rfl⟩
theorem d_X9_wayOf_16 : kf_dq cX9_wayOf 16 19 3 (.getfield 9) := ⟨by decide +kernel, rfl⟩
theorem d_X9_wayOf_19 : kf_dq cX9_wayOf 19 22 3 (.getfield 46) := ⟨by decide +kernel, rfl⟩
theorem d_X9_wayOf_22 : kf_dq cX9_wayOf 22 24 2 (.aload 4) := ⟨by decide +kernel, rfl⟩
theorem d_X9_wayOf_24 : kf_dq cX9_wayOf 24 25 1 (.aload_n 0) := ⟨by decide +kernel, rfl⟩
theorem d_X9_wayOf_25 : kf_dq cX9_wayOf 25 28 3 (.getfield 9) := ⟨by decide +kernel, rfl⟩
theorem d_X9_wayOf_28 : kf_dq cX9_wayOf 28 31 3 (.getfield 52) := ⟨by decide +kernel, rfl⟩
theorem d_X9_wayOf_31 : kf_dq cX9_wayOf 31 32 1 (.iload_n 3) := ⟨by decide +kernel, rfl⟩
theorem d_X9_wayOf_32 : kf_dq cX9_wayOf 32 33 1 (.iload_n 2) := ⟨by decide +kernel, rfl⟩
theorem d_X9_wayOf_33 : kf_dq cX9_wayOf 33 34 1 (.aload_n 0) := ⟨by decide +kernel, rfl⟩
theorem d_X9_wayOf_34 : kf_dq cX9_wayOf 34 37 3 (.getfield 15) := ⟨by decide +kernel, rfl⟩
theorem d_X9_wayOf_37 : kf_dq cX9_wayOf 37 40 3 (.getfield 55) := ⟨by decide +kernel, rfl⟩
theorem d_X9_wayOf_40 : kf_dq cX9_wayOf 40 43 3 (.invokevirtual 58) := ⟨by decide +kernel, rfl⟩
theorem d_X9_wayOf_43 : kf_dj cX9_wayOf 43 46 48 (.ifCond .ne) := ⟨5, by decide +kernel, rfl, by decide⟩
theorem d_X9_wayOf_46 : kf_dq cX9_wayOf 46 47 1 (.iconst 0) := ⟨by decide +kernel, rfl⟩
theorem d_X9_wayOf_47 : kf_dq cX9_wayOf 47 48 1 (.ireturn) := ⟨by decide +kernel, rfl⟩
theorem d_X9_wayOf_48 : kf_dq cX9_wayOf 48 50 2 (.aload 4) := ⟨by decide +kernel, rfl⟩
theorem d_X9_wayOf_50 : kf_dq cX9_wayOf 50 53 3 (.getfield 64) := ⟨by decide +kernel, rfl⟩
theorem d_X9_wayOf_53 : kf_dq cX9_wayOf 53 54 1 (.iload_n 2) := ⟨by decide +kernel, rfl⟩
theorem d_X9_wayOf_54 : kf_dq cX9_wayOf 54 55 1 (.iaload) := ⟨by decide +kernel, rfl⟩
theorem d_X9_wayOf_55 : kf_dq cX9_wayOf 55 56 1 (.aload_n 0) := ⟨by decide +kernel, rfl⟩
theorem d_X9_wayOf_56 : kf_dq cX9_wayOf 56 59 3 (.getfield 9) := ⟨by decide +kernel, rfl⟩
theorem d_X9_wayOf_59 : kf_dq cX9_wayOf 59 62 3 (.getfield 52) := ⟨by decide +kernel, rfl⟩
theorem d_X9_wayOf_62 : kf_dq cX9_wayOf 62 63 1 (.iconst 4) := ⟨by decide +kernel, rfl⟩
theorem d_X9_wayOf_63 : kf_dq cX9_wayOf 63 64 1 (.iload_n 3) := ⟨by decide +kernel, rfl⟩
theorem d_X9_wayOf_64 : kf_dq cX9_wayOf 64 65 1 (.imul) := ⟨by decide +kernel, rfl⟩
theorem d_X9_wayOf_65 : kf_dq cX9_wayOf 65 66 1 (.iload_n 2) := ⟨by decide +kernel, rfl⟩
theorem d_X9_wayOf_66 : kf_dq cX9_wayOf 66 67 1 (.iadd) := ⟨by decide +kernel, rfl⟩
theorem d_X9_wayOf_67 : kf_dq cX9_wayOf 67 68 1 (.iaload) := ⟨by decide +kernel, rfl⟩
theorem d_X9_wayOf_68 : kf_dj cX9_wayOf 68 71 75 (.if_icmp .ge) := ⟨7, by decide +kernel, rfl, by decide⟩
theorem d_X9_wayOf_71 : kf_dq cX9_wayOf 71 72 1 (.iconst 1) := ⟨by decide +kernel, rfl⟩
theorem d_X9_wayOf_72 : kf_dj cX9_wayOf 72 75 76 .goto := ⟨4, by decide +kernel, rfl, by decide⟩
theorem d_X9_wayOf_75 : kf_dq cX9_wayOf 75 76 1 (.iconst (-1)) := ⟨by decide +kernel, rfl⟩
theorem d_X9_wayOf_76 : kf_dq cX9_wayOf 76 77 1 (.ireturn) := ⟨by decide +kernel, rfl⟩
def f_X9_wayOf (v0 : Nat) (v1 : Int32) (v2 : Int32) (v3 : Int32) (σ : kf_St) : Option (Int32 × kf_St) :=
  if kf_ix v1 (kf_ln (kf_rf (kf_rf v0 2) 0)) = true then
  (f_X4_stepOf (kf_rf v0 3) (kf_rf (kf_rf v0 1) 14) (kf_rf (kf_rf (kf_rf v0 2) 0) (Int32.toNatClampNeg v1)) (kf_rf (kf_rf v0 1) 9) v3 v2 (σ.1 (kf_rf v0 2) 3) σ).bind fun q_2 =>
  if q_2.1 = 0 then
    some (0, q_2.2)
  else
    if kf_ix v2 (kf_ln (kf_rf (kf_rf (kf_rf (kf_rf v0 2) 0) (Int32.toNatClampNeg v1)) 0)) = true then
    if kf_ix ((4 * v3) + v2) (kf_ln (kf_rf (kf_rf v0 1) 9)) = true then
    if (q_2.2.1 (kf_rf (kf_rf v0 1) 9) (Int32.toNatClampNeg ((4 * v3) + v2))) ≤ (q_2.2.1 (kf_rf (kf_rf (kf_rf (kf_rf v0 2) 0) (Int32.toNatClampNeg v1)) 0) (Int32.toNatClampNeg v2)) then
      some ((-1), q_2.2)
    else
      some (1, q_2.2)
    else none
    else none
  else none
set_option maxRecDepth 100000 in
set_option maxHeartbeats 4000000 in
theorem c_X9_wayOf {G : kf_G} (hty : kf_wt G) (v0 : Nat) (v1 : Int32) (v2 : Int32) (v3 : Int32) (k_v0 : kf_kd G v0 = 10) (σ : kf_St) {q : (Int32 × kf_St)} (h : f_X9_wayOf v0 v1 v2 v3 σ = some q) : kf_Ct (4) yX9_wayOf cX9_wayOf 5 (some .int) G [.ref (kf_ad G v0), .int v1, .int v2, .int v3] σ (some (.int q.1)) q.2 := by
  refine kf_Ct.of hty.1 (lv := [(0, .ref (kf_ad G v0)), (1, .int v1), (2, .int v2), (3, .int v3)]) (by decide +kernel) rfl (Nat.le_of_ble_eq_true rfl) (fun X E => ?_)
  unfold f_X9_wayOf at h
  refine wa_aload_n 0 rfl E d_X9_wayOf_0 ?_
  refine wa_getR fl_X9_15 k_v0 rfl E d_X9_wayOf_1 ?_
  refine wa_getR fl_X9_40 (kf_wtf hty 2 7 k_v0 (by decide) rfl) rfl E d_X9_wayOf_4 ?_
  refine wa_iload_n 1 rfl E d_X9_wayOf_7 ?_
  obtain ⟨g_1, h⟩ := kf_gd h
  refine wa_aald (kf_wtf hty 0 53 (kf_wtf hty 2 7 k_v0 (by decide) rfl) (by decide) rfl) g_1 E d_X9_wayOf_8 ?_
  refine wa_astore (lv' := [(4, .ref (kf_ad G (kf_rf (kf_rf (kf_rf v0 2) 0) (Int32.toNatClampNeg v1)))), (0, .ref (kf_ad G v0)), (1, .int v1), (2, .int v2), (3, .int v3)]) (by decide) rfl E d_X9_wayOf_9 ?_
  refine wa_aload_n 1 rfl E d_X9_wayOf_11 ?_
  refine wa_getR fl_X9_19 k_v0 rfl E d_X9_wayOf_12 ?_
  refine wa_aload_n 1 rfl E d_X9_wayOf_15 ?_
  refine wa_getR fl_X9_9 k_v0 rfl E d_X9_wayOf_16 ?_
  refine wa_getR fl_X9_46 (kf_wtf hty 1 10 k_v0 (by decide) rfl) rfl E d_X9_wayOf_19 ?_
  refine wa_aload 0 rfl E d_X9_wayOf_22 ?_
  refine wa_aload_n 1 rfl E d_X9_wayOf_24 ?_
  refine wa_getR fl_X9_9 k_v0 rfl E d_X9_wayOf_25 ?_
  refine wa_getR fl_X9_52 (kf_wtf hty 1 10 k_v0 (by decide) rfl) rfl E d_X9_wayOf_28 ?_
  refine wa_iload_n 4 rfl E d_X9_wayOf_31 ?_
  refine wa_iload_n 3 rfl E d_X9_wayOf_32 ?_
  refine wa_aload_n 1 rfl E d_X9_wayOf_33 ?_
  refine wa_getR fl_X9_15 k_v0 rfl E d_X9_wayOf_34 ?_
  refine wa_getI fl_X9_55 (kf_wtf hty 2 7 k_v0 (by decide) rfl) rfl E d_X9_wayOf_37 ?_
  obtain ⟨q_2, hq_2, h⟩ := kf_bd h
  refine wa_callV (st2 := [.int q_2.1]) (c_X4_stepOf hty (kf_rf v0 3) (kf_rf (kf_rf v0 1) 14) (kf_rf (kf_rf (kf_rf v0 2) 0) (Int32.toNatClampNeg v1)) (kf_rf (kf_rf v0 1) 9) v3 v2 (σ.1 (kf_rf v0 2) 3) (kf_wtf hty 3 4 k_v0 (by decide) rfl) (kf_wtf hty 14 2 (kf_wtf hty 1 10 k_v0 (by decide) rfl) (by decide) rfl) (kf_wta hty (kf_wtf hty 0 53 (kf_wtf hty 2 7 k_v0 (by decide) rfl) (by decide) rfl) g_1) (kf_wtf hty 9 49 (kf_wtf hty 1 10 k_v0 (by decide) rfl) (by decide) rfl) σ hq_2) mv_X4_stepOf ml_X9_58 (kf_wtf hty 3 4 k_v0 (by decide) rfl) rfl (Nat.le_of_ble_eq_true rfl) rfl (Nat.le_of_ble_eq_true rfl) E d_X9_wayOf_40 rfl ?_
  refine wa_if_ne E d_X9_wayOf_43 (fun c_3 => ?_) (fun c_3 => ?_)
  · replace h := kf_iff c_3 h
    refine wa_aload 0 rfl E d_X9_wayOf_48 ?_
    refine wa_getR fl_X9_64 (kf_wta hty (kf_wtf hty 0 53 (kf_wtf hty 2 7 k_v0 (by decide) rfl) (by decide) rfl) g_1) rfl E d_X9_wayOf_50 ?_
    refine wa_iload_n 3 rfl E d_X9_wayOf_53 ?_
    obtain ⟨g_4, h⟩ := kf_gd h
    refine wa_iald (kf_wtf hty 0 49 (kf_wta hty (kf_wtf hty 0 53 (kf_wtf hty 2 7 k_v0 (by decide) rfl) (by decide) rfl) g_1) (by decide) rfl) g_4 E d_X9_wayOf_54 ?_
    refine wa_aload_n 1 rfl E d_X9_wayOf_55 ?_
    refine wa_getR fl_X9_9 k_v0 rfl E d_X9_wayOf_56 ?_
    refine wa_getR fl_X9_52 (kf_wtf hty 1 10 k_v0 (by decide) rfl) rfl E d_X9_wayOf_59 ?_
    refine wa_iconst 4 ic_4 E d_X9_wayOf_62 ?_
    refine wa_iload_n 4 rfl E d_X9_wayOf_63 ?_
    refine wa_imul E d_X9_wayOf_64 ?_
    refine wa_iload_n 3 rfl E d_X9_wayOf_65 ?_
    refine wa_iadd E d_X9_wayOf_66 ?_
    obtain ⟨g_5, h⟩ := kf_gd h
    refine wa_iald (kf_wtf hty 9 49 (kf_wtf hty 1 10 k_v0 (by decide) rfl) (by decide) rfl) g_5 E d_X9_wayOf_67 ?_
    refine wa_icmp_ge E d_X9_wayOf_68 (fun c_6 => ?_) (fun c_6 => ?_)
    · replace h := kf_ift c_6 h
      refine wa_iconst (-1) ic_m1 E d_X9_wayOf_75 ?_
      cases h
      exact wa_iret E d_X9_wayOf_76
    · replace h := kf_iff c_6 h
      refine wa_iconst 1 ic_1 E d_X9_wayOf_71 ?_
      refine wa_goto E d_X9_wayOf_72 ?_
      cases h
      exact wa_iret E d_X9_wayOf_76
  · replace h := kf_ift c_3 h
    refine wa_iconst 0 ic_0 E d_X9_wayOf_46 ?_
    cases h
    exact wa_iret E d_X9_wayOf_47
/-! X9_suspects -/
theorem d_X9_suspects_0 : kf_dq cX9_suspects 0 1 1 (.iconst 0) := ⟨by decide +kernel, rfl⟩
theorem d_X9_suspects_1 : kf_dq cX9_suspects 1 2 1 (.istore_n 2) := ⟨by decide +kernel, rfl⟩
theorem d_X9_suspects_2 : kf_dq cX9_suspects 2 3 1 (.iconst 0) := ⟨by decide +kernel, rfl⟩
theorem d_X9_suspects_3 : kf_dq cX9_suspects 3 4 1 (.istore_n 3) := ⟨by decide +kernel, rfl⟩
theorem d_X9_suspects_4 : kf_dq cX9_suspects 4 5 1 (.iload_n 3) := ⟨by decide +kernel, rfl⟩
theorem d_X9_suspects_5 : kf_dq cX9_suspects 5 6 1 (.aload_n 0) := ⟨by decide +kernel, rfl⟩
theorem d_X9_suspects_6 : kf_dq cX9_suspects 6 9 3 (.getfield 9) := ⟨by decide +kernel, rfl⟩
theorem d_X9_suspects_9 : kf_dq cX9_suspects 9 12 3 (.getfield 67) := ⟨by decide +kernel, rfl⟩
theorem d_X9_suspects_12 : kf_dj cX9_suspects 12 15 104 (.if_icmp .ge) := ⟨92, by decide +kernel, rfl, by decide⟩
theorem d_X9_suspects_15 : kf_dq cX9_suspects 15 16 1 (.iconst 1) := ⟨by decide +kernel, rfl⟩
theorem d_X9_suspects_16 : kf_dq cX9_suspects 16 18 2 (.istore 4) := ⟨by decide +kernel, rfl⟩
theorem d_X9_suspects_18 : kf_dq cX9_suspects 18 19 1 (.iconst 0) := ⟨by decide +kernel, rfl⟩
theorem d_X9_suspects_19 : kf_dq cX9_suspects 19 21 2 (.istore 5) := ⟨by decide +kernel, rfl⟩
theorem d_X9_suspects_21 : kf_dq cX9_suspects 21 23 2 (.iload 5) := ⟨by decide +kernel, rfl⟩
theorem d_X9_suspects_23 : kf_dq cX9_suspects 23 24 1 (.iload_n 1) := ⟨by decide +kernel, rfl⟩
theorem d_X9_suspects_24 : kf_dj cX9_suspects 24 27 83 (.if_icmp .ge) := ⟨59, by decide +kernel, rfl, by decide⟩
theorem d_X9_suspects_27 : kf_dq cX9_suspects 27 29 2 (.iload 5) := ⟨by decide +kernel, rfl⟩
theorem d_X9_suspects_29 : kf_dq cX9_suspects 29 30 1 (.aload_n 0) := ⟨by decide +kernel, rfl⟩
theorem d_X9_suspects_30 : kf_dq cX9_suspects 30 33 3 (.getfield 36) := ⟨by decide +kernel, rfl⟩
theorem d_X9_suspects_33 : kf_dj cX9_suspects 33 36 83 (.if_icmp .ge) := ⟨50, by decide +kernel, rfl, by decide⟩
theorem d_X9_suspects_36 : kf_dq cX9_suspects 36 38 2 (.iload 4) := ⟨by decide +kernel, rfl⟩
theorem d_X9_suspects_38 : kf_dj cX9_suspects 38 41 83 (.ifCond .eq) := ⟨45, by decide +kernel, rfl, by decide⟩
theorem d_X9_suspects_41 : kf_dq cX9_suspects 41 42 1 (.aload_n 0) := ⟨by decide +kernel, rfl⟩
theorem d_X9_suspects_42 : kf_dq cX9_suspects 42 43 1 (.aload_n 0) := ⟨by decide +kernel, rfl⟩
theorem d_X9_suspects_43 : kf_dq cX9_suspects 43 46 3 (.getfield 23) := ⟨by decide +kernel, rfl⟩
theorem d_X9_suspects_46 : kf_dq cX9_suspects 46 48 2 (.iload 5) := ⟨by decide +kernel, rfl⟩
theorem d_X9_suspects_48 : kf_dq cX9_suspects 48 49 1 (.iaload) := ⟨by decide +kernel, rfl⟩
theorem d_X9_suspects_49 : kf_dq cX9_suspects 49 50 1 (.aload_n 0) := ⟨by decide +kernel, rfl⟩
theorem d_X9_suspects_50 : kf_dq cX9_suspects 50 53 3 (.getfield 27) := ⟨by decide +kernel, rfl⟩
theorem d_X9_suspects_53 : kf_dq cX9_suspects 53 55 2 (.iload 5) := ⟨by decide +kernel, rfl⟩
theorem d_X9_suspects_55 : kf_dq cX9_suspects 55 56 1 (.iaload) := ⟨by decide +kernel, rfl⟩
theorem d_X9_suspects_56 : kf_dq cX9_suspects 56 57 1 (.iload_n 3) := ⟨by decide +kernel, rfl⟩
theorem d_X9_suspects_57 : kf_dq cX9_suspects 57 60 3 (.invokevirtual 70) := ⟨by decide +kernel, rfl⟩
theorem d_X9_suspects_60 : kf_dq cX9_suspects 60 61 1 (.aload_n 0) := ⟨by decide +kernel, rfl⟩
theorem d_X9_suspects_61 : kf_dq cX9_suspects 61 64 3 (.getfield 30) := ⟨by decide +kernel, rfl⟩
theorem d_X9_suspects_64 : kf_dq cX9_suspects 64 66 2 (.iload 5) := ⟨by decide +kernel, rfl⟩
theorem d_X9_suspects_66 : kf_dq cX9_suspects 66 67 1 (.iaload) := ⟨by decide +kernel, rfl⟩
theorem d_X9_suspects_67 : kf_dj cX9_suspects 67 70 74 (.if_icmp .ne) := ⟨7, by decide +kernel, rfl, by decide⟩
theorem d_X9_suspects_70 : kf_dq cX9_suspects 70 71 1 (.iconst 1) := ⟨by decide +kernel, rfl⟩
theorem d_X9_suspects_71 : kf_dj cX9_suspects 71 74 75 .goto := ⟨4, by decide +kernel, rfl, by decide⟩
theorem d_X9_suspects_74 : kf_dq cX9_suspects 74 75 1 (.iconst 0) := ⟨by decide +kernel, rfl⟩
theorem d_X9_suspects_75 : kf_dq cX9_suspects 75 77 2 (.istore 4) := ⟨by decide +kernel, rfl⟩
theorem d_X9_suspects_77 : kf_dq cX9_suspects 77 80 3 (.iinc 5 1) := ⟨by decide +kernel, rfl⟩
theorem d_X9_suspects_80 : kf_dj cX9_suspects 80 83 21 .goto := ⟨(-59), by decide +kernel, rfl, by decide⟩
theorem d_X9_suspects_83 : kf_dq cX9_suspects 83 84 1 (.iload_n 2) := ⟨by decide +kernel, rfl⟩
theorem d_X9_suspects_84 : kf_dq cX9_suspects 84 86 2 (.iload 4) := ⟨by decide +kernel, rfl⟩
theorem d_X9_suspects_86 : kf_dj cX9_suspects 86 89 95 (.ifCond .eq) := ⟨9, by decide +kernel, rfl, by decide⟩
theorem d_X9_suspects_89 : kf_dq cX9_suspects 89 90 1 (.iconst 1) := ⟨by decide +kernel, rfl⟩
theorem d_X9_suspects_90 : kf_dq cX9_suspects 90 91 1 (.iload_n 3) := ⟨by decide +kernel, rfl⟩
theorem d_X9_suspects_91 : kf_dq cX9_suspects 91 92 1 (.ishl) := ⟨by decide +kernel, rfl⟩
theorem d_X9_suspects_92 : kf_dj cX9_suspects 92 95 96 .goto := ⟨4, by decide +kernel, rfl, by decide⟩
theorem d_X9_suspects_95 : kf_dq cX9_suspects 95 96 1 (.iconst 0) := ⟨by decide +kernel, rfl⟩
theorem d_X9_suspects_96 : kf_dq cX9_suspects 96 97 1 (.ior) := ⟨by decide +kernel, rfl⟩
theorem d_X9_suspects_97 : kf_dq cX9_suspects 97 98 1 (.istore_n 2) := ⟨by decide +kernel, rfl⟩
theorem d_X9_suspects_98 : kf_dq cX9_suspects 98 101 3 (.iinc 3 1) := ⟨by decide +kernel, rfl⟩
theorem d_X9_suspects_101 : kf_dj cX9_suspects 101 104 4 .goto := ⟨(-97), by decide +kernel, rfl, by decide⟩
theorem d_X9_suspects_104 : kf_dq cX9_suspects 104 105 1 (.iload_n 2) := ⟨by decide +kernel, rfl⟩
theorem d_X9_suspects_105 : kf_dq cX9_suspects 105 106 1 (.ireturn) := ⟨by decide +kernel, rfl⟩
def f_X9_suspects_96 (rec4 : Nat → Int32 → Int32 → Int32 → kf_St → Option (Int32 × kf_St)) (v0 : Nat) (v1 : Int32) (v3 : Int32) (s0 : Int32) (s1 : Int32) (σ : kf_St) : Option (Int32 × kf_St) :=
  kf_lt ((s0 ||| s1)) fun v2_1 =>
  kf_lt (v3 + 1) fun v3_2 =>
  rec4 v0 v1 v2_1 v3_2 σ
set_option maxRecDepth 100000 in
set_option maxHeartbeats 4000000 in
theorem b_X9_suspects_96 {X : kf_X} {G : kf_G} {rec4 : Nat → Int32 → Int32 → Int32 → kf_St → Option (Int32 × kf_St)} {q : (Int32 × kf_St)} (E : kf_ok X G cX9_suspects RX9 6 (some .int) (5)) (hty : kf_wt G) (hrec4 : ∀ (v0 : Nat) (v1 : Int32) (v2 : Int32) (v3 : Int32) (k_v0 : kf_kd G v0 = 10) (σ : kf_St), rec4 v0 v1 v2 v3 σ = some q → kf_WA X G 6 (kf_Q X G (some (.int q.1)) q.2) 4 [(0, .ref (kf_ad G v0)), (1, .int v1), (2, .int v2), (3, .int v3)] [] σ) (v0 : Nat) (v1 : Int32) (v3 : Int32) (s0 : Int32) (s1 : Int32) (k_v0 : kf_kd G v0 = 10) (σ : kf_St) (h : f_X9_suspects_96 rec4 v0 v1 v3 s0 s1 σ = some q) : kf_WA X G 6 (kf_Q X G (some (.int q.1)) q.2) 96 [(0, .ref (kf_ad G v0)), (1, .int v1), (3, .int v3)] [.int s1, .int s0] σ := by
  unfold f_X9_suspects_96 at h
  refine wa_ior E d_X9_suspects_96 ?_
  obtain ⟨v2_1, ev2_1, h⟩ := kf_lte h
  refine wa_topi ev2_1 ?_
  refine wa_istore_n (lv' := [(2, .int v2_1), (0, .ref (kf_ad G v0)), (1, .int v1), (3, .int v3)]) rfl (by decide) rfl E d_X9_suspects_97 ?_
  obtain ⟨v3_2, ev3_2, h⟩ := kf_lte h
  refine wa_iinc (lv' := [(3, .int v3_2), (2, .int v2_1), (0, .ref (kf_ad G v0)), (1, .int v1)]) v3_2 3 rfl (kf_inc ic_1 ev3_2) (by decide) rfl E d_X9_suspects_98 ?_
  refine wa_goto E d_X9_suspects_101 ?_
  refine wa_sub [2, 3, 1, 0] rfl ?_
  exact hrec4 v0 v1 v2_1 v3_2 k_v0 σ h
def f_X9_suspects_83 (rec4 : Nat → Int32 → Int32 → Int32 → kf_St → Option (Int32 × kf_St)) (v0 : Nat) (v1 : Int32) (v2 : Int32) (v3 : Int32) (v4 : Int32) (σ : kf_St) : Option (Int32 × kf_St) :=
  if v4 = 0 then
    f_X9_suspects_96 rec4 v0 v1 v3 v2 0 σ
  else
    f_X9_suspects_96 rec4 v0 v1 v3 v2 ((1 : Int32) <<< (v3 &&& 31)) σ
set_option maxRecDepth 100000 in
set_option maxHeartbeats 4000000 in
theorem b_X9_suspects_83 {X : kf_X} {G : kf_G} {rec4 : Nat → Int32 → Int32 → Int32 → kf_St → Option (Int32 × kf_St)} {q : (Int32 × kf_St)} (E : kf_ok X G cX9_suspects RX9 6 (some .int) (5)) (hty : kf_wt G) (hrec4 : ∀ (v0 : Nat) (v1 : Int32) (v2 : Int32) (v3 : Int32) (k_v0 : kf_kd G v0 = 10) (σ : kf_St), rec4 v0 v1 v2 v3 σ = some q → kf_WA X G 6 (kf_Q X G (some (.int q.1)) q.2) 4 [(0, .ref (kf_ad G v0)), (1, .int v1), (2, .int v2), (3, .int v3)] [] σ) (v0 : Nat) (v1 : Int32) (v2 : Int32) (v3 : Int32) (v4 : Int32) (k_v0 : kf_kd G v0 = 10) (σ : kf_St) (h : f_X9_suspects_83 rec4 v0 v1 v2 v3 v4 σ = some q) : kf_WA X G 6 (kf_Q X G (some (.int q.1)) q.2) 83 [(0, .ref (kf_ad G v0)), (1, .int v1), (2, .int v2), (3, .int v3), (4, .int v4)] [] σ := by
  unfold f_X9_suspects_83 at h
  refine wa_iload_n 2 rfl E d_X9_suspects_83 ?_
  refine wa_iload 4 rfl E d_X9_suspects_84 ?_
  refine wa_if_eq E d_X9_suspects_86 (fun c_1 => ?_) (fun c_1 => ?_)
  · replace h := kf_ift c_1 h
    refine wa_iconst 0 ic_0 E d_X9_suspects_95 ?_
    refine wa_sub [0, 1, 3] rfl ?_
    exact b_X9_suspects_96 E hty hrec4 v0 v1 v3 v2 0 k_v0 σ h
  · replace h := kf_iff c_1 h
    refine wa_iconst 1 ic_1 E d_X9_suspects_89 ?_
    refine wa_iload_n 3 rfl E d_X9_suspects_90 ?_
    refine wa_ishl E d_X9_suspects_91 ?_
    refine wa_goto E d_X9_suspects_92 ?_
    refine wa_sub [0, 1, 3] rfl ?_
    exact b_X9_suspects_96 E hty hrec4 v0 v1 v3 v2 ((1 : Int32) <<< (v3 &&& 31)) k_v0 σ h
def f_X9_suspects_75 (rec4 : Nat → Int32 → Int32 → Int32 → kf_St → Option (Int32 × kf_St)) (rec21 : Nat → Int32 → Int32 → Int32 → Int32 → Int32 → kf_St → Option (Int32 × kf_St)) (v0 : Nat) (v1 : Int32) (v2 : Int32) (v3 : Int32) (v5 : Int32) (s0 : Int32) (σ : kf_St) : Option (Int32 × kf_St) :=
  kf_lt (v5 + 1) fun v5_1 =>
  rec21 v0 v1 v2 v3 s0 v5_1 σ
set_option maxRecDepth 100000 in
set_option maxHeartbeats 4000000 in
theorem b_X9_suspects_75 {X : kf_X} {G : kf_G} {rec4 : Nat → Int32 → Int32 → Int32 → kf_St → Option (Int32 × kf_St)} {rec21 : Nat → Int32 → Int32 → Int32 → Int32 → Int32 → kf_St → Option (Int32 × kf_St)} {q : (Int32 × kf_St)} (E : kf_ok X G cX9_suspects RX9 6 (some .int) (5)) (hty : kf_wt G) (hrec4 : ∀ (v0 : Nat) (v1 : Int32) (v2 : Int32) (v3 : Int32) (k_v0 : kf_kd G v0 = 10) (σ : kf_St), rec4 v0 v1 v2 v3 σ = some q → kf_WA X G 6 (kf_Q X G (some (.int q.1)) q.2) 4 [(0, .ref (kf_ad G v0)), (1, .int v1), (2, .int v2), (3, .int v3)] [] σ) (hrec21 : ∀ (v0 : Nat) (v1 : Int32) (v2 : Int32) (v3 : Int32) (v4 : Int32) (v5 : Int32) (k_v0 : kf_kd G v0 = 10) (σ : kf_St), rec21 v0 v1 v2 v3 v4 v5 σ = some q → kf_WA X G 6 (kf_Q X G (some (.int q.1)) q.2) 21 [(0, .ref (kf_ad G v0)), (1, .int v1), (2, .int v2), (3, .int v3), (4, .int v4), (5, .int v5)] [] σ) (v0 : Nat) (v1 : Int32) (v2 : Int32) (v3 : Int32) (v5 : Int32) (s0 : Int32) (k_v0 : kf_kd G v0 = 10) (σ : kf_St) (h : f_X9_suspects_75 rec4 rec21 v0 v1 v2 v3 v5 s0 σ = some q) : kf_WA X G 6 (kf_Q X G (some (.int q.1)) q.2) 75 [(0, .ref (kf_ad G v0)), (1, .int v1), (2, .int v2), (3, .int v3), (5, .int v5)] [.int s0] σ := by
  unfold f_X9_suspects_75 at h
  refine wa_istore (lv' := [(4, .int s0), (0, .ref (kf_ad G v0)), (1, .int v1), (2, .int v2), (3, .int v3), (5, .int v5)]) (by decide) rfl E d_X9_suspects_75 ?_
  obtain ⟨v5_1, ev5_1, h⟩ := kf_lte h
  refine wa_iinc (lv' := [(5, .int v5_1), (4, .int s0), (0, .ref (kf_ad G v0)), (1, .int v1), (2, .int v2), (3, .int v3)]) v5_1 5 rfl (kf_inc ic_1 ev5_1) (by decide) rfl E d_X9_suspects_77 ?_
  refine wa_goto E d_X9_suspects_80 ?_
  refine wa_sub [2, 3, 4, 5, 1, 0] rfl ?_
  exact hrec21 v0 v1 v2 v3 s0 v5_1 k_v0 σ h
def f_X9_suspects_21_s (rec4 : Nat → Int32 → Int32 → Int32 → kf_St → Option (Int32 × kf_St)) (rec21 : Nat → Int32 → Int32 → Int32 → Int32 → Int32 → kf_St → Option (Int32 × kf_St)) (v0 : Nat) (v1 : Int32) (v2 : Int32) (v3 : Int32) (v4 : Int32) (v5 : Int32) (σ : kf_St) : Option (Int32 × kf_St) :=
  if v1 ≤ v5 then
    f_X9_suspects_83 rec4 v0 v1 v2 v3 v4 σ
  else
    if (σ.1 v0 0) ≤ v5 then
      f_X9_suspects_83 rec4 v0 v1 v2 v3 v4 σ
    else
      if v4 = 0 then
        f_X9_suspects_83 rec4 v0 v1 v2 v3 v4 σ
      else
        if kf_ix v5 (kf_ln (kf_rf v0 4)) = true then
        if kf_ix v5 (kf_ln (kf_rf v0 5)) = true then
        (f_X9_wayOf v0 (σ.1 (kf_rf v0 4) (Int32.toNatClampNeg v5)) (σ.1 (kf_rf v0 5) (Int32.toNatClampNeg v5)) v3 σ).bind fun q_6 =>
        if kf_ix v5 (kf_ln (kf_rf v0 6)) = true then
        if q_6.1 = (q_6.2.1 (kf_rf v0 6) (Int32.toNatClampNeg v5)) then
          f_X9_suspects_75 rec4 rec21 v0 v1 v2 v3 v5 1 q_6.2
        else
          f_X9_suspects_75 rec4 rec21 v0 v1 v2 v3 v5 0 q_6.2
        else none
        else none
        else none
def f_X9_suspects_21 (rec4 : Nat → Int32 → Int32 → Int32 → kf_St → Option (Int32 × kf_St)) : Nat → Nat → Int32 → Int32 → Int32 → Int32 → Int32 → kf_St → Option (Int32 × kf_St)
  | 0, _, _, _, _, _, _, _ => none
  | n + 1, v0, v1, v2, v3, v4, v5, σ => f_X9_suspects_21_s rec4 (f_X9_suspects_21 rec4 n) v0 v1 v2 v3 v4 v5 σ
set_option maxRecDepth 100000 in
set_option maxHeartbeats 4000000 in
theorem b_X9_suspects_21_s {X : kf_X} {G : kf_G} {rec4 : Nat → Int32 → Int32 → Int32 → kf_St → Option (Int32 × kf_St)} (rec21 : Nat → Int32 → Int32 → Int32 → Int32 → Int32 → kf_St → Option (Int32 × kf_St)) {q : (Int32 × kf_St)} (E : kf_ok X G cX9_suspects RX9 6 (some .int) (5)) (hty : kf_wt G) (hrec4 : ∀ (v0 : Nat) (v1 : Int32) (v2 : Int32) (v3 : Int32) (k_v0 : kf_kd G v0 = 10) (σ : kf_St), rec4 v0 v1 v2 v3 σ = some q → kf_WA X G 6 (kf_Q X G (some (.int q.1)) q.2) 4 [(0, .ref (kf_ad G v0)), (1, .int v1), (2, .int v2), (3, .int v3)] [] σ) (hrec21 : ∀ (v0 : Nat) (v1 : Int32) (v2 : Int32) (v3 : Int32) (v4 : Int32) (v5 : Int32) (k_v0 : kf_kd G v0 = 10) (σ : kf_St), rec21 v0 v1 v2 v3 v4 v5 σ = some q → kf_WA X G 6 (kf_Q X G (some (.int q.1)) q.2) 21 [(0, .ref (kf_ad G v0)), (1, .int v1), (2, .int v2), (3, .int v3), (4, .int v4), (5, .int v5)] [] σ) (v0 : Nat) (v1 : Int32) (v2 : Int32) (v3 : Int32) (v4 : Int32) (v5 : Int32) (k_v0 : kf_kd G v0 = 10) (σ : kf_St) (h : f_X9_suspects_21_s rec4 rec21 v0 v1 v2 v3 v4 v5 σ = some q) : kf_WA X G 6 (kf_Q X G (some (.int q.1)) q.2) 21 [(0, .ref (kf_ad G v0)), (1, .int v1), (2, .int v2), (3, .int v3), (4, .int v4), (5, .int v5)] [] σ := by
  unfold f_X9_suspects_21_s at h
  refine wa_iload 5 rfl E d_X9_suspects_21 ?_
  refine wa_iload_n 1 rfl E d_X9_suspects_23 ?_
  refine wa_icmp_ge E d_X9_suspects_24 (fun c_1 => ?_) (fun c_1 => ?_)
  · replace h := kf_ift c_1 h
    refine wa_sub [0, 1, 2, 3, 4] rfl ?_
    exact b_X9_suspects_83 E hty hrec4 v0 v1 v2 v3 v4 k_v0 σ h
  · replace h := kf_iff c_1 h
    refine wa_iload 5 rfl E d_X9_suspects_27 ?_
    refine wa_aload_n 0 rfl E d_X9_suspects_29 ?_
    refine wa_getI fl_X9_36 k_v0 rfl E d_X9_suspects_30 ?_
    refine wa_icmp_ge E d_X9_suspects_33 (fun c_2 => ?_) (fun c_2 => ?_)
    · replace h := kf_ift c_2 h
      refine wa_sub [0, 1, 2, 3, 4] rfl ?_
      exact b_X9_suspects_83 E hty hrec4 v0 v1 v2 v3 v4 k_v0 σ h
    · replace h := kf_iff c_2 h
      refine wa_iload 4 rfl E d_X9_suspects_36 ?_
      refine wa_if_eq E d_X9_suspects_38 (fun c_3 => ?_) (fun c_3 => ?_)
      · replace h := kf_ift c_3 h
        refine wa_sub [0, 1, 2, 3, 4] rfl ?_
        exact b_X9_suspects_83 E hty hrec4 v0 v1 v2 v3 v4 k_v0 σ h
      · replace h := kf_iff c_3 h
        refine wa_aload_n 0 rfl E d_X9_suspects_41 ?_
        refine wa_aload_n 0 rfl E d_X9_suspects_42 ?_
        refine wa_getR fl_X9_23 k_v0 rfl E d_X9_suspects_43 ?_
        refine wa_iload 5 rfl E d_X9_suspects_46 ?_
        obtain ⟨g_4, h⟩ := kf_gd h
        refine wa_iald (kf_wtf hty 4 49 k_v0 (by decide) rfl) g_4 E d_X9_suspects_48 ?_
        refine wa_aload_n 0 rfl E d_X9_suspects_49 ?_
        refine wa_getR fl_X9_27 k_v0 rfl E d_X9_suspects_50 ?_
        refine wa_iload 5 rfl E d_X9_suspects_53 ?_
        obtain ⟨g_5, h⟩ := kf_gd h
        refine wa_iald (kf_wtf hty 5 49 k_v0 (by decide) rfl) g_5 E d_X9_suspects_55 ?_
        refine wa_iload_n 3 rfl E d_X9_suspects_56 ?_
        obtain ⟨q_6, hq_6, h⟩ := kf_bd h
        refine wa_callV (st2 := [.int q_6.1]) (c_X9_wayOf hty v0 (σ.1 (kf_rf v0 4) (Int32.toNatClampNeg v5)) (σ.1 (kf_rf v0 5) (Int32.toNatClampNeg v5)) v3 k_v0 σ hq_6) mv_X9_wayOf ml_X9_70 k_v0 rfl (Nat.le_of_ble_eq_true rfl) rfl (Nat.le_of_ble_eq_true rfl) E d_X9_suspects_57 rfl ?_
        refine wa_aload_n 0 rfl E d_X9_suspects_60 ?_
        refine wa_getR fl_X9_30 k_v0 rfl E d_X9_suspects_61 ?_
        refine wa_iload 5 rfl E d_X9_suspects_64 ?_
        obtain ⟨g_7, h⟩ := kf_gd h
        refine wa_iald (kf_wtf hty 6 49 k_v0 (by decide) rfl) g_7 E d_X9_suspects_66 ?_
        refine wa_icmp_ne E d_X9_suspects_67 (fun c_8 => ?_) (fun c_8 => ?_)
        · replace h := kf_iff c_8 h
          refine wa_iconst 0 ic_0 E d_X9_suspects_74 ?_
          refine wa_sub [0, 1, 2, 3, 5] rfl ?_
          exact b_X9_suspects_75 E hty hrec4 hrec21 v0 v1 v2 v3 v5 0 k_v0 q_6.2 h
        · replace h := kf_ift c_8 h
          refine wa_iconst 1 ic_1 E d_X9_suspects_70 ?_
          refine wa_goto E d_X9_suspects_71 ?_
          refine wa_sub [0, 1, 2, 3, 5] rfl ?_
          exact b_X9_suspects_75 E hty hrec4 hrec21 v0 v1 v2 v3 v5 1 k_v0 q_6.2 h
theorem b_X9_suspects_21 {X : kf_X} {G : kf_G} {rec4 : Nat → Int32 → Int32 → Int32 → kf_St → Option (Int32 × kf_St)} {q : (Int32 × kf_St)} (E : kf_ok X G cX9_suspects RX9 6 (some .int) (5)) (hty : kf_wt G) (hrec4 : ∀ (v0 : Nat) (v1 : Int32) (v2 : Int32) (v3 : Int32) (k_v0 : kf_kd G v0 = 10) (σ : kf_St), rec4 v0 v1 v2 v3 σ = some q → kf_WA X G 6 (kf_Q X G (some (.int q.1)) q.2) 4 [(0, .ref (kf_ad G v0)), (1, .int v1), (2, .int v2), (3, .int v3)] [] σ) : ∀ (N : Nat) (v0 : Nat) (v1 : Int32) (v2 : Int32) (v3 : Int32) (v4 : Int32) (v5 : Int32) (k_v0 : kf_kd G v0 = 10) (σ : kf_St) (_ : f_X9_suspects_21 rec4 N v0 v1 v2 v3 v4 v5 σ = some q), kf_WA X G 6 (kf_Q X G (some (.int q.1)) q.2) 21 [(0, .ref (kf_ad G v0)), (1, .int v1), (2, .int v2), (3, .int v3), (4, .int v4), (5, .int v5)] [] σ
  | 0, _, _, _, _, _, _, _, _, h => by cases h
  | N + 1, v0, v1, v2, v3, v4, v5, k_v0, σ, h => b_X9_suspects_21_s _ E hty hrec4 (b_X9_suspects_21 E hty hrec4 N) v0 v1 v2 v3 v4 v5 k_v0 σ h
def f_X9_suspects_4_s (rec4 : Nat → Int32 → Int32 → Int32 → kf_St → Option (Int32 × kf_St)) (v0 : Nat) (v1 : Int32) (v2 : Int32) (v3 : Int32) (σ : kf_St) : Option (Int32 × kf_St) :=
  if (σ.1 (kf_rf v0 1) 1) ≤ v3 then
    some (v2, σ)
  else
    f_X9_suspects_21 rec4 kf_F v0 v1 v2 v3 1 0 σ
def f_X9_suspects_4 : Nat → Nat → Int32 → Int32 → Int32 → kf_St → Option (Int32 × kf_St)
  | 0, _, _, _, _, _ => none
  | n + 1, v0, v1, v2, v3, σ => f_X9_suspects_4_s (f_X9_suspects_4 n) v0 v1 v2 v3 σ
set_option maxRecDepth 100000 in
set_option maxHeartbeats 4000000 in
theorem b_X9_suspects_4_s {X : kf_X} {G : kf_G} (rec4 : Nat → Int32 → Int32 → Int32 → kf_St → Option (Int32 × kf_St)) {q : (Int32 × kf_St)} (E : kf_ok X G cX9_suspects RX9 6 (some .int) (5)) (hty : kf_wt G) (hrec4 : ∀ (v0 : Nat) (v1 : Int32) (v2 : Int32) (v3 : Int32) (k_v0 : kf_kd G v0 = 10) (σ : kf_St), rec4 v0 v1 v2 v3 σ = some q → kf_WA X G 6 (kf_Q X G (some (.int q.1)) q.2) 4 [(0, .ref (kf_ad G v0)), (1, .int v1), (2, .int v2), (3, .int v3)] [] σ) (v0 : Nat) (v1 : Int32) (v2 : Int32) (v3 : Int32) (k_v0 : kf_kd G v0 = 10) (σ : kf_St) (h : f_X9_suspects_4_s rec4 v0 v1 v2 v3 σ = some q) : kf_WA X G 6 (kf_Q X G (some (.int q.1)) q.2) 4 [(0, .ref (kf_ad G v0)), (1, .int v1), (2, .int v2), (3, .int v3)] [] σ := by
  unfold f_X9_suspects_4_s at h
  refine wa_iload_n 3 rfl E d_X9_suspects_4 ?_
  refine wa_aload_n 0 rfl E d_X9_suspects_5 ?_
  refine wa_getR fl_X9_9 k_v0 rfl E d_X9_suspects_6 ?_
  refine wa_getI fl_X9_67 (kf_wtf hty 1 10 k_v0 (by decide) rfl) rfl E d_X9_suspects_9 ?_
  refine wa_icmp_ge E d_X9_suspects_12 (fun c_1 => ?_) (fun c_1 => ?_)
  · replace h := kf_ift c_1 h
    refine wa_iload_n 2 rfl E d_X9_suspects_104 ?_
    cases h
    exact wa_iret E d_X9_suspects_105
  · replace h := kf_iff c_1 h
    refine wa_iconst 1 ic_1 E d_X9_suspects_15 ?_
    refine wa_istore (lv' := [(4, .int 1), (0, .ref (kf_ad G v0)), (1, .int v1), (2, .int v2), (3, .int v3)]) (by decide) rfl E d_X9_suspects_16 ?_
    refine wa_iconst 0 ic_0 E d_X9_suspects_18 ?_
    refine wa_istore (lv' := [(5, .int 0), (4, .int 1), (0, .ref (kf_ad G v0)), (1, .int v1), (2, .int v2), (3, .int v3)]) (by decide) rfl E d_X9_suspects_19 ?_
    refine wa_sub [2, 3, 4, 5, 1, 0] rfl ?_
    exact b_X9_suspects_21 E hty hrec4 kf_F v0 v1 v2 v3 1 0 k_v0 σ h
theorem b_X9_suspects_4 {X : kf_X} {G : kf_G} {q : (Int32 × kf_St)} (E : kf_ok X G cX9_suspects RX9 6 (some .int) (5)) (hty : kf_wt G) : ∀ (N : Nat) (v0 : Nat) (v1 : Int32) (v2 : Int32) (v3 : Int32) (k_v0 : kf_kd G v0 = 10) (σ : kf_St) (_ : f_X9_suspects_4 N v0 v1 v2 v3 σ = some q), kf_WA X G 6 (kf_Q X G (some (.int q.1)) q.2) 4 [(0, .ref (kf_ad G v0)), (1, .int v1), (2, .int v2), (3, .int v3)] [] σ
  | 0, _, _, _, _, _, _, h => by cases h
  | N + 1, v0, v1, v2, v3, k_v0, σ, h => b_X9_suspects_4_s _ E hty (b_X9_suspects_4 E hty N) v0 v1 v2 v3 k_v0 σ h
def f_X9_suspects (v0 : Nat) (v1 : Int32) (σ : kf_St) : Option (Int32 × kf_St) :=
  f_X9_suspects_4 kf_F v0 v1 0 0 σ
set_option maxRecDepth 100000 in
set_option maxHeartbeats 4000000 in
theorem c_X9_suspects {G : kf_G} (hty : kf_wt G) (v0 : Nat) (v1 : Int32) (k_v0 : kf_kd G v0 = 10) (σ : kf_St) {q : (Int32 × kf_St)} (h : f_X9_suspects v0 v1 σ = some q) : kf_Ct (5) yX9_suspects cX9_suspects 6 (some .int) G [.ref (kf_ad G v0), .int v1] σ (some (.int q.1)) q.2 := by
  refine kf_Ct.of hty.1 (lv := [(0, .ref (kf_ad G v0)), (1, .int v1)]) (by decide +kernel) rfl (Nat.le_of_ble_eq_true rfl) (fun X E => ?_)
  unfold f_X9_suspects at h
  refine wa_iconst 0 ic_0 E d_X9_suspects_0 ?_
  refine wa_istore_n (lv' := [(2, .int 0), (0, .ref (kf_ad G v0)), (1, .int v1)]) rfl (by decide) rfl E d_X9_suspects_1 ?_
  refine wa_iconst 0 ic_0 E d_X9_suspects_2 ?_
  refine wa_istore_n (lv' := [(3, .int 0), (2, .int 0), (0, .ref (kf_ad G v0)), (1, .int v1)]) rfl (by decide) rfl E d_X9_suspects_3 ?_
  refine wa_sub [2, 3, 1, 0] rfl ?_
  exact b_X9_suspects_4 E hty kf_F v0 v1 0 0 k_v0 σ h
/-! X9_mostLeft -/
theorem d_X9_mostLeft_0 : kf_dq cX9_mostLeft 0 1 1 (.aload_n 0) := ⟨by decide +kernel, rfl⟩
theorem d_X9_mostLeft_1 : kf_dq cX9_mostLeft 1 4 3 (.getfield 33) := ⟨by decide +kernel, rfl⟩
theorem d_X9_mostLeft_4 : kf_dq cX9_mostLeft 4 5 1 (.iconst 0) := ⟨by decide +kernel, rfl⟩
theorem d_X9_mostLeft_5 : kf_dq cX9_mostLeft 5 6 1 (.iconst 0) := ⟨by decide +kernel, rfl⟩
theorem d_X9_mostLeft_6 : kf_dq cX9_mostLeft 6 7 1 (.iastore) := ⟨by decide +kernel, rfl⟩
theorem d_X9_mostLeft_7 : kf_dq cX9_mostLeft 7 8 1 (.aload_n 0) := ⟨by decide +kernel, rfl⟩
theorem d_X9_mostLeft_8 : kf_dq cX9_mostLeft 8 11 3 (.getfield 33) := ⟨by decide +kernel, rfl⟩
theorem d_X9_mostLeft_11 : kf_dq cX9_mostLeft 11 12 1 (.iconst 1) := ⟨by decide +kernel, rfl⟩
theorem d_X9_mostLeft_12 : kf_dq cX9_mostLeft 12 13 1 (.iconst 0) := ⟨by decide +kernel, rfl⟩
theorem d_X9_mostLeft_13 : kf_dq cX9_mostLeft 13 14 1 (.iastore) := ⟨by decide +kernel, rfl⟩
theorem d_X9_mostLeft_14 : kf_dq cX9_mostLeft 14 15 1 (.aload_n 0) := ⟨by decide +kernel, rfl⟩
theorem d_X9_mostLeft_15 : kf_dq cX9_mostLeft 15 18 3 (.getfield 33) := ⟨by decide +kernel, rfl⟩
theorem d_X9_mostLeft_18 : kf_dq cX9_mostLeft 18 19 1 (.iconst 2) := ⟨by decide +kernel, rfl⟩
theorem d_X9_mostLeft_19 : kf_dq cX9_mostLeft 19 20 1 (.iconst 0) := ⟨by decide +kernel, rfl⟩
theorem d_X9_mostLeft_20 : kf_dq cX9_mostLeft 20 21 1 (.iastore) := ⟨by decide +kernel, rfl⟩
theorem d_X9_mostLeft_21 : kf_dq cX9_mostLeft 21 22 1 (.iconst 0) := ⟨by decide +kernel, rfl⟩
theorem d_X9_mostLeft_22 : kf_dq cX9_mostLeft 22 24 2 (.istore 4) := ⟨by decide +kernel, rfl⟩
theorem d_X9_mostLeft_24 : kf_dq cX9_mostLeft 24 26 2 (.iload 4) := ⟨by decide +kernel, rfl⟩
theorem d_X9_mostLeft_26 : kf_dq cX9_mostLeft 26 27 1 (.aload_n 0) := ⟨by decide +kernel, rfl⟩
theorem d_X9_mostLeft_27 : kf_dq cX9_mostLeft 27 30 3 (.getfield 9) := ⟨by decide +kernel, rfl⟩
theorem d_X9_mostLeft_30 : kf_dq cX9_mostLeft 30 33 3 (.getfield 67) := ⟨by decide +kernel, rfl⟩
theorem d_X9_mostLeft_33 : kf_dj cX9_mostLeft 33 36 71 (.if_icmp .ge) := ⟨38, by decide +kernel, rfl, by decide⟩
theorem d_X9_mostLeft_36 : kf_dq cX9_mostLeft 36 37 1 (.iload_n 3) := ⟨by decide +kernel, rfl⟩
theorem d_X9_mostLeft_37 : kf_dq cX9_mostLeft 37 39 2 (.iload 4) := ⟨by decide +kernel, rfl⟩
theorem d_X9_mostLeft_39 : kf_dq cX9_mostLeft 39 40 1 (.ishr) := ⟨by decide +kernel, rfl⟩
theorem d_X9_mostLeft_40 : kf_dq cX9_mostLeft 40 41 1 (.iconst 1) := ⟨by decide +kernel, rfl⟩
theorem d_X9_mostLeft_41 : kf_dq cX9_mostLeft 41 42 1 (.iand) := ⟨by decide +kernel, rfl⟩
theorem d_X9_mostLeft_42 : kf_dq cX9_mostLeft 42 43 1 (.iconst 1) := ⟨by decide +kernel, rfl⟩
theorem d_X9_mostLeft_43 : kf_dj cX9_mostLeft 43 46 65 (.if_icmp .ne) := ⟨22, by decide +kernel, rfl, by decide⟩
theorem d_X9_mostLeft_46 : kf_dq cX9_mostLeft 46 47 1 (.aload_n 0) := ⟨by decide +kernel, rfl⟩
theorem d_X9_mostLeft_47 : kf_dq cX9_mostLeft 47 50 3 (.getfield 33) := ⟨by decide +kernel, rfl⟩
theorem d_X9_mostLeft_50 : kf_dq cX9_mostLeft 50 51 1 (.aload_n 0) := ⟨by decide +kernel, rfl⟩
theorem d_X9_mostLeft_51 : kf_dq cX9_mostLeft 51 52 1 (.iload_n 1) := ⟨by decide +kernel, rfl⟩
theorem d_X9_mostLeft_52 : kf_dq cX9_mostLeft 52 53 1 (.iload_n 2) := ⟨by decide +kernel, rfl⟩
theorem d_X9_mostLeft_53 : kf_dq cX9_mostLeft 53 55 2 (.iload 4) := ⟨by decide +kernel, rfl⟩
theorem d_X9_mostLeft_55 : kf_dq cX9_mostLeft 55 58 3 (.invokevirtual 70) := ⟨by decide +kernel, rfl⟩
theorem d_X9_mostLeft_58 : kf_dq cX9_mostLeft 58 59 1 (.iconst 1) := ⟨by decide +kernel, rfl⟩
theorem d_X9_mostLeft_59 : kf_dq cX9_mostLeft 59 60 1 (.iadd) := ⟨by decide +kernel, rfl⟩
theorem d_X9_mostLeft_60 : kf_dq cX9_mostLeft 60 61 1 (.dup2) := ⟨by decide +kernel, rfl⟩
theorem d_X9_mostLeft_61 : kf_dq cX9_mostLeft 61 62 1 (.iaload) := ⟨by decide +kernel, rfl⟩
theorem d_X9_mostLeft_62 : kf_dq cX9_mostLeft 62 63 1 (.iconst 1) := ⟨by decide +kernel, rfl⟩
theorem d_X9_mostLeft_63 : kf_dq cX9_mostLeft 63 64 1 (.iadd) := ⟨by decide +kernel, rfl⟩
theorem d_X9_mostLeft_64 : kf_dq cX9_mostLeft 64 65 1 (.iastore) := ⟨by decide +kernel, rfl⟩
theorem d_X9_mostLeft_65 : kf_dq cX9_mostLeft 65 68 3 (.iinc 4 1) := ⟨by decide +kernel, rfl⟩
theorem d_X9_mostLeft_68 : kf_dj cX9_mostLeft 68 71 24 .goto := ⟨(-44), by decide +kernel, rfl, by decide⟩
theorem d_X9_mostLeft_71 : kf_dq cX9_mostLeft 71 72 1 (.aload_n 0) := ⟨by decide +kernel, rfl⟩
theorem d_X9_mostLeft_72 : kf_dq cX9_mostLeft 72 75 3 (.getfield 33) := ⟨by decide +kernel, rfl⟩
theorem d_X9_mostLeft_75 : kf_dq cX9_mostLeft 75 76 1 (.iconst 0) := ⟨by decide +kernel, rfl⟩
theorem d_X9_mostLeft_76 : kf_dq cX9_mostLeft 76 77 1 (.iaload) := ⟨by decide +kernel, rfl⟩
theorem d_X9_mostLeft_77 : kf_dq cX9_mostLeft 77 78 1 (.aload_n 0) := ⟨by decide +kernel, rfl⟩
theorem d_X9_mostLeft_78 : kf_dq cX9_mostLeft 78 81 3 (.getfield 33) := ⟨by decide +kernel, rfl⟩
theorem d_X9_mostLeft_81 : kf_dq cX9_mostLeft 81 82 1 (.iconst 1) := ⟨by decide +kernel, rfl⟩
theorem d_X9_mostLeft_82 : kf_dq cX9_mostLeft 82 83 1 (.iaload) := ⟨by decide +kernel, rfl⟩
theorem d_X9_mostLeft_83 : kf_dq cX9_mostLeft 83 84 1 (.aload_n 0) := ⟨by decide +kernel, rfl⟩
theorem d_X9_mostLeft_84 : kf_dq cX9_mostLeft 84 87 3 (.getfield 33) := ⟨by decide +kernel, rfl⟩
theorem d_X9_mostLeft_87 : kf_dq cX9_mostLeft 87 88 1 (.iconst 2) := ⟨by decide +kernel, rfl⟩
theorem d_X9_mostLeft_88 : kf_dq cX9_mostLeft 88 89 1 (.iaload) := ⟨by decide +kernel, rfl⟩
theorem d_X9_mostLeft_89 : kf_dq cX9_mostLeft 89 92 3 (.invokestatic 83) := ⟨by decide +kernel, rfl⟩
theorem d_X9_mostLeft_92 : kf_dq cX9_mostLeft 92 95 3 (.invokestatic 83) := ⟨by decide +kernel, rfl⟩
theorem d_X9_mostLeft_95 : kf_dq cX9_mostLeft 95 96 1 (.ireturn) := ⟨by decide +kernel, rfl⟩
def f_X9_mostLeft_65 (rec24 : Nat → Int32 → Int32 → Int32 → Int32 → kf_St → Option (Int32 × kf_St)) (v0 : Nat) (v1 : Int32) (v2 : Int32) (v3 : Int32) (v4 : Int32) (σ : kf_St) : Option (Int32 × kf_St) :=
  kf_lt (v4 + 1) fun v4_1 =>
  rec24 v0 v1 v2 v3 v4_1 σ
set_option maxRecDepth 100000 in
set_option maxHeartbeats 4000000 in
theorem b_X9_mostLeft_65 {X : kf_X} {G : kf_G} {rec24 : Nat → Int32 → Int32 → Int32 → Int32 → kf_St → Option (Int32 × kf_St)} {q : (Int32 × kf_St)} (E : kf_ok X G cX9_mostLeft RX9 5 (some .int) (5)) (hty : kf_wt G) (hrec24 : ∀ (v0 : Nat) (v1 : Int32) (v2 : Int32) (v3 : Int32) (v4 : Int32) (k_v0 : kf_kd G v0 = 10) (σ : kf_St), rec24 v0 v1 v2 v3 v4 σ = some q → kf_WA X G 5 (kf_Q X G (some (.int q.1)) q.2) 24 [(0, .ref (kf_ad G v0)), (1, .int v1), (2, .int v2), (3, .int v3), (4, .int v4)] [] σ) (v0 : Nat) (v1 : Int32) (v2 : Int32) (v3 : Int32) (v4 : Int32) (k_v0 : kf_kd G v0 = 10) (σ : kf_St) (h : f_X9_mostLeft_65 rec24 v0 v1 v2 v3 v4 σ = some q) : kf_WA X G 5 (kf_Q X G (some (.int q.1)) q.2) 65 [(0, .ref (kf_ad G v0)), (1, .int v1), (2, .int v2), (3, .int v3), (4, .int v4)] [] σ := by
  unfold f_X9_mostLeft_65 at h
  obtain ⟨v4_1, ev4_1, h⟩ := kf_lte h
  refine wa_iinc (lv' := [(4, .int v4_1), (0, .ref (kf_ad G v0)), (1, .int v1), (2, .int v2), (3, .int v3)]) v4_1 4 rfl (kf_inc ic_1 ev4_1) (by decide) rfl E d_X9_mostLeft_65 ?_
  refine wa_goto E d_X9_mostLeft_68 ?_
  refine wa_sub [1, 2, 3, 4, 0] rfl ?_
  exact hrec24 v0 v1 v2 v3 v4_1 k_v0 σ h
def f_X9_mostLeft_24_s (rec24 : Nat → Int32 → Int32 → Int32 → Int32 → kf_St → Option (Int32 × kf_St)) (v0 : Nat) (v1 : Int32) (v2 : Int32) (v3 : Int32) (v4 : Int32) (σ : kf_St) : Option (Int32 × kf_St) :=
  if (σ.1 (kf_rf v0 1) 1) ≤ v4 then
    if kf_ix 0 (kf_ln (kf_rf v0 7)) = true then
    if kf_ix 1 (kf_ln (kf_rf v0 7)) = true then
    if kf_ix 2 (kf_ln (kf_rf v0 7)) = true then
    kf_lt (if (σ.1 (kf_rf v0 7) (Int32.toNatClampNeg 1)) < (σ.1 (kf_rf v0 7) (Int32.toNatClampNeg 2)) then (σ.1 (kf_rf v0 7) (Int32.toNatClampNeg 2)) else (σ.1 (kf_rf v0 7) (Int32.toNatClampNeg 1))) fun x_5 =>
    kf_lt (if (σ.1 (kf_rf v0 7) (Int32.toNatClampNeg 0)) < x_5 then x_5 else (σ.1 (kf_rf v0 7) (Int32.toNatClampNeg 0))) fun x_6 =>
    some (x_6, σ)
    else none
    else none
    else none
  else
    if ((v3 >>> (v4 &&& 31)) &&& 1) = 1 then
      (f_X9_wayOf v0 v1 v2 v4 σ).bind fun q_8 =>
      if kf_ix (q_8.1 + 1) (kf_ln (kf_rf v0 7)) = true then
      if kf_ix (q_8.1 + 1) (kf_ln (kf_rf v0 7)) = true then
      kf_lt (kf_wi q_8.2 (kf_rf v0 7) (Int32.toNatClampNeg (q_8.1 + 1)) ((q_8.2.1 (kf_rf v0 7) (Int32.toNatClampNeg (q_8.1 + 1))) + 1)) fun σ_11 =>
      f_X9_mostLeft_65 rec24 v0 v1 v2 v3 v4 σ_11
      else none
      else none
    else
      f_X9_mostLeft_65 rec24 v0 v1 v2 v3 v4 σ
def f_X9_mostLeft_24 : Nat → Nat → Int32 → Int32 → Int32 → Int32 → kf_St → Option (Int32 × kf_St)
  | 0, _, _, _, _, _, _ => none
  | n + 1, v0, v1, v2, v3, v4, σ => f_X9_mostLeft_24_s (f_X9_mostLeft_24 n) v0 v1 v2 v3 v4 σ
set_option maxRecDepth 100000 in
set_option maxHeartbeats 4000000 in
theorem b_X9_mostLeft_24_s {X : kf_X} {G : kf_G} (rec24 : Nat → Int32 → Int32 → Int32 → Int32 → kf_St → Option (Int32 × kf_St)) {q : (Int32 × kf_St)} (E : kf_ok X G cX9_mostLeft RX9 5 (some .int) (5)) (hty : kf_wt G) (hrec24 : ∀ (v0 : Nat) (v1 : Int32) (v2 : Int32) (v3 : Int32) (v4 : Int32) (k_v0 : kf_kd G v0 = 10) (σ : kf_St), rec24 v0 v1 v2 v3 v4 σ = some q → kf_WA X G 5 (kf_Q X G (some (.int q.1)) q.2) 24 [(0, .ref (kf_ad G v0)), (1, .int v1), (2, .int v2), (3, .int v3), (4, .int v4)] [] σ) (v0 : Nat) (v1 : Int32) (v2 : Int32) (v3 : Int32) (v4 : Int32) (k_v0 : kf_kd G v0 = 10) (σ : kf_St) (h : f_X9_mostLeft_24_s rec24 v0 v1 v2 v3 v4 σ = some q) : kf_WA X G 5 (kf_Q X G (some (.int q.1)) q.2) 24 [(0, .ref (kf_ad G v0)), (1, .int v1), (2, .int v2), (3, .int v3), (4, .int v4)] [] σ := by
  unfold f_X9_mostLeft_24_s at h
  refine wa_iload 4 rfl E d_X9_mostLeft_24 ?_
  refine wa_aload_n 0 rfl E d_X9_mostLeft_26 ?_
  refine wa_getR fl_X9_9 k_v0 rfl E d_X9_mostLeft_27 ?_
  refine wa_getI fl_X9_67 (kf_wtf hty 1 10 k_v0 (by decide) rfl) rfl E d_X9_mostLeft_30 ?_
  refine wa_icmp_ge E d_X9_mostLeft_33 (fun c_1 => ?_) (fun c_1 => ?_)
  · replace h := kf_ift c_1 h
    refine wa_aload_n 0 rfl E d_X9_mostLeft_71 ?_
    refine wa_getR fl_X9_33 k_v0 rfl E d_X9_mostLeft_72 ?_
    refine wa_iconst 0 ic_0 E d_X9_mostLeft_75 ?_
    obtain ⟨g_2, h⟩ := kf_gd h
    refine wa_iald (kf_wtf hty 7 49 k_v0 (by decide) rfl) g_2 E d_X9_mostLeft_76 ?_
    refine wa_aload_n 0 rfl E d_X9_mostLeft_77 ?_
    refine wa_getR fl_X9_33 k_v0 rfl E d_X9_mostLeft_78 ?_
    refine wa_iconst 1 ic_1 E d_X9_mostLeft_81 ?_
    obtain ⟨g_3, h⟩ := kf_gd h
    refine wa_iald (kf_wtf hty 7 49 k_v0 (by decide) rfl) g_3 E d_X9_mostLeft_82 ?_
    refine wa_aload_n 0 rfl E d_X9_mostLeft_83 ?_
    refine wa_getR fl_X9_33 k_v0 rfl E d_X9_mostLeft_84 ?_
    refine wa_iconst 2 ic_2 E d_X9_mostLeft_87 ?_
    obtain ⟨g_4, h⟩ := kf_gd h
    refine wa_iald (kf_wtf hty 7 49 k_v0 (by decide) rfl) g_4 E d_X9_mostLeft_88 ?_
    refine wa_mmax ml_X9_83 ms_max mini mc_max (Nat.le_of_ble_eq_true rfl) (Nat.le_of_ble_eq_true rfl) E d_X9_mostLeft_89 ?_
    obtain ⟨x_5, ex_5, h⟩ := kf_lte h
    refine wa_topi ex_5 ?_
    refine wa_mmax ml_X9_83 ms_max mini mc_max (Nat.le_of_ble_eq_true rfl) (Nat.le_of_ble_eq_true rfl) E d_X9_mostLeft_92 ?_
    obtain ⟨x_6, ex_6, h⟩ := kf_lte h
    refine wa_topi ex_6 ?_
    cases h
    exact wa_iret E d_X9_mostLeft_95
  · replace h := kf_iff c_1 h
    refine wa_iload_n 3 rfl E d_X9_mostLeft_36 ?_
    refine wa_iload 4 rfl E d_X9_mostLeft_37 ?_
    refine wa_ishr E d_X9_mostLeft_39 ?_
    refine wa_iconst 1 ic_1 E d_X9_mostLeft_40 ?_
    refine wa_iand E d_X9_mostLeft_41 ?_
    refine wa_iconst 1 ic_1 E d_X9_mostLeft_42 ?_
    refine wa_icmp_ne E d_X9_mostLeft_43 (fun c_7 => ?_) (fun c_7 => ?_)
    · replace h := kf_iff c_7 h
      exact b_X9_mostLeft_65 E hty hrec24 v0 v1 v2 v3 v4 k_v0 σ h
    · replace h := kf_ift c_7 h
      refine wa_aload_n 0 rfl E d_X9_mostLeft_46 ?_
      refine wa_getR fl_X9_33 k_v0 rfl E d_X9_mostLeft_47 ?_
      refine wa_aload_n 0 rfl E d_X9_mostLeft_50 ?_
      refine wa_iload_n 1 rfl E d_X9_mostLeft_51 ?_
      refine wa_iload_n 2 rfl E d_X9_mostLeft_52 ?_
      refine wa_iload 4 rfl E d_X9_mostLeft_53 ?_
      obtain ⟨q_8, hq_8, h⟩ := kf_bd h
      refine wa_callV (st2 := [.int q_8.1, .ref (kf_ad G (kf_rf v0 7))]) (c_X9_wayOf hty v0 v1 v2 v4 k_v0 σ hq_8) mv_X9_wayOf ml_X9_70 k_v0 rfl (Nat.le_of_ble_eq_true rfl) rfl (Nat.le_of_ble_eq_true rfl) E d_X9_mostLeft_55 rfl ?_
      refine wa_iconst 1 ic_1 E d_X9_mostLeft_58 ?_
      refine wa_iadd E d_X9_mostLeft_59 ?_
      refine wa_dup2 rfl rfl E d_X9_mostLeft_60 ?_
      obtain ⟨g_9, h⟩ := kf_gd h
      refine wa_iald (kf_wtf hty 7 49 k_v0 (by decide) rfl) g_9 E d_X9_mostLeft_61 ?_
      refine wa_iconst 1 ic_1 E d_X9_mostLeft_62 ?_
      refine wa_iadd E d_X9_mostLeft_63 ?_
      obtain ⟨g_10, h⟩ := kf_gd h
      obtain ⟨σ_11, eσ_11, h⟩ := kf_lte h
      refine wa_iast (kf_wtf hty 7 49 k_v0 (by decide) rfl) g_10 E d_X9_mostLeft_64 eσ_11 ?_
      exact b_X9_mostLeft_65 E hty hrec24 v0 v1 v2 v3 v4 k_v0 σ_11 h
theorem b_X9_mostLeft_24 {X : kf_X} {G : kf_G} {q : (Int32 × kf_St)} (E : kf_ok X G cX9_mostLeft RX9 5 (some .int) (5)) (hty : kf_wt G) : ∀ (N : Nat) (v0 : Nat) (v1 : Int32) (v2 : Int32) (v3 : Int32) (v4 : Int32) (k_v0 : kf_kd G v0 = 10) (σ : kf_St) (_ : f_X9_mostLeft_24 N v0 v1 v2 v3 v4 σ = some q), kf_WA X G 5 (kf_Q X G (some (.int q.1)) q.2) 24 [(0, .ref (kf_ad G v0)), (1, .int v1), (2, .int v2), (3, .int v3), (4, .int v4)] [] σ
  | 0, _, _, _, _, _, _, _, h => by cases h
  | N + 1, v0, v1, v2, v3, v4, k_v0, σ, h => b_X9_mostLeft_24_s _ E hty (b_X9_mostLeft_24 E hty N) v0 v1 v2 v3 v4 k_v0 σ h
def f_X9_mostLeft (v0 : Nat) (v1 : Int32) (v2 : Int32) (v3 : Int32) (σ : kf_St) : Option (Int32 × kf_St) :=
  if kf_ix 0 (kf_ln (kf_rf v0 7)) = true then
  kf_lt (kf_wi σ (kf_rf v0 7) (Int32.toNatClampNeg 0) 0) fun σ_2 =>
  if kf_ix 1 (kf_ln (kf_rf v0 7)) = true then
  kf_lt (kf_wi σ_2 (kf_rf v0 7) (Int32.toNatClampNeg 1) 0) fun σ_4 =>
  if kf_ix 2 (kf_ln (kf_rf v0 7)) = true then
  kf_lt (kf_wi σ_4 (kf_rf v0 7) (Int32.toNatClampNeg 2) 0) fun σ_6 =>
  f_X9_mostLeft_24 kf_F v0 v1 v2 v3 0 σ_6
  else none
  else none
  else none
set_option maxRecDepth 100000 in
set_option maxHeartbeats 4000000 in
theorem c_X9_mostLeft {G : kf_G} (hty : kf_wt G) (v0 : Nat) (v1 : Int32) (v2 : Int32) (v3 : Int32) (k_v0 : kf_kd G v0 = 10) (σ : kf_St) {q : (Int32 × kf_St)} (h : f_X9_mostLeft v0 v1 v2 v3 σ = some q) : kf_Ct (5) yX9_mostLeft cX9_mostLeft 5 (some .int) G [.ref (kf_ad G v0), .int v1, .int v2, .int v3] σ (some (.int q.1)) q.2 := by
  refine kf_Ct.of hty.1 (lv := [(0, .ref (kf_ad G v0)), (1, .int v1), (2, .int v2), (3, .int v3)]) (by decide +kernel) rfl (Nat.le_of_ble_eq_true rfl) (fun X E => ?_)
  unfold f_X9_mostLeft at h
  refine wa_aload_n 0 rfl E d_X9_mostLeft_0 ?_
  refine wa_getR fl_X9_33 k_v0 rfl E d_X9_mostLeft_1 ?_
  refine wa_iconst 0 ic_0 E d_X9_mostLeft_4 ?_
  refine wa_iconst 0 ic_0 E d_X9_mostLeft_5 ?_
  obtain ⟨g_1, h⟩ := kf_gd h
  obtain ⟨σ_2, eσ_2, h⟩ := kf_lte h
  refine wa_iast (kf_wtf hty 7 49 k_v0 (by decide) rfl) g_1 E d_X9_mostLeft_6 eσ_2 ?_
  refine wa_aload_n 0 rfl E d_X9_mostLeft_7 ?_
  refine wa_getR fl_X9_33 k_v0 rfl E d_X9_mostLeft_8 ?_
  refine wa_iconst 1 ic_1 E d_X9_mostLeft_11 ?_
  refine wa_iconst 0 ic_0 E d_X9_mostLeft_12 ?_
  obtain ⟨g_3, h⟩ := kf_gd h
  obtain ⟨σ_4, eσ_4, h⟩ := kf_lte h
  refine wa_iast (kf_wtf hty 7 49 k_v0 (by decide) rfl) g_3 E d_X9_mostLeft_13 eσ_4 ?_
  refine wa_aload_n 0 rfl E d_X9_mostLeft_14 ?_
  refine wa_getR fl_X9_33 k_v0 rfl E d_X9_mostLeft_15 ?_
  refine wa_iconst 2 ic_2 E d_X9_mostLeft_18 ?_
  refine wa_iconst 0 ic_0 E d_X9_mostLeft_19 ?_
  obtain ⟨g_5, h⟩ := kf_gd h
  obtain ⟨σ_6, eσ_6, h⟩ := kf_lte h
  refine wa_iast (kf_wtf hty 7 49 k_v0 (by decide) rfl) g_5 E d_X9_mostLeft_20 eσ_6 ?_
  refine wa_iconst 0 ic_0 E d_X9_mostLeft_21 ?_
  refine wa_istore (lv' := [(4, .int 0), (0, .ref (kf_ad G v0)), (1, .int v1), (2, .int v2), (3, .int v3)]) (by decide) rfl E d_X9_mostLeft_22 ?_
  refine wa_sub [1, 2, 3, 4, 0] rfl ?_
  exact b_X9_mostLeft_24 E hty kf_F v0 v1 v2 v3 0 k_v0 σ_6 h
/-! X9_bestQuestion -/
theorem d_X9_bestQuestion_0 : kf_dq cX9_bestQuestion 0 1 1 (.aload_n 0) := ⟨by decide +kernel, rfl⟩
theorem d_X9_bestQuestion_1 : kf_dq cX9_bestQuestion 1 2 1 (.iload_n 1) := ⟨by decide +kernel, rfl⟩
theorem d_X9_bestQuestion_2 : kf_dq cX9_bestQuestion 2 5 3 (.invokevirtual 74) := ⟨by decide +kernel, rfl⟩
theorem d_X9_bestQuestion_5 : kf_dq cX9_bestQuestion 5 6 1 (.istore_n 2) := ⟨by decide +kernel, rfl⟩
theorem d_X9_bestQuestion_6 : kf_dq cX9_bestQuestion 6 8 2 (.bipush (-2)) := ⟨by decide +kernel, rfl⟩
theorem d_X9_bestQuestion_8 : kf_dq cX9_bestQuestion 8 9 1 (.istore_n 3) := ⟨by decide +kernel, rfl⟩
theorem d_X9_bestQuestion_9 : kf_dq cX9_bestQuestion 9 11 2 (.bipush 6) := ⟨by decide +kernel, rfl⟩
theorem d_X9_bestQuestion_11 : kf_dq cX9_bestQuestion 11 13 2 (.istore 4) := ⟨by decide +kernel, rfl⟩
theorem d_X9_bestQuestion_13 : kf_dq cX9_bestQuestion 13 14 1 (.iconst 0) := ⟨by decide +kernel, rfl⟩
theorem d_X9_bestQuestion_14 : kf_dq cX9_bestQuestion 14 16 2 (.istore 5) := ⟨by decide +kernel, rfl⟩
theorem d_X9_bestQuestion_16 : kf_dq cX9_bestQuestion 16 18 2 (.iload 5) := ⟨by decide +kernel, rfl⟩
theorem d_X9_bestQuestion_18 : kf_dq cX9_bestQuestion 18 19 1 (.aload_n 0) := ⟨by decide +kernel, rfl⟩
theorem d_X9_bestQuestion_19 : kf_dq cX9_bestQuestion 19 22 3 (.getfield 9) := ⟨by decide +kernel, rfl⟩
theorem d_X9_bestQuestion_22 : kf_dq cX9_bestQuestion 22 25 3 (.getfield 78) := ⟨by decide +kernel, rfl⟩
theorem d_X9_bestQuestion_25 : kf_dj cX9_bestQuestion 25 28 84 (.if_icmp .ge) := ⟨59, by decide +kernel, rfl, by decide⟩
theorem d_X9_bestQuestion_28 : kf_dq cX9_bestQuestion 28 29 1 (.iload_n 2) := ⟨by decide +kernel, rfl⟩
theorem d_X9_bestQuestion_29 : kf_dj cX9_bestQuestion 29 32 84 (.ifCond .eq) := ⟨55, by decide +kernel, rfl, by decide⟩
theorem d_X9_bestQuestion_32 : kf_dq cX9_bestQuestion 32 33 1 (.iconst 0) := ⟨by decide +kernel, rfl⟩
theorem d_X9_bestQuestion_33 : kf_dq cX9_bestQuestion 33 35 2 (.istore 6) := ⟨by decide +kernel, rfl⟩
theorem d_X9_bestQuestion_35 : kf_dq cX9_bestQuestion 35 37 2 (.iload 6) := ⟨by decide +kernel, rfl⟩
theorem d_X9_bestQuestion_37 : kf_dq cX9_bestQuestion 37 38 1 (.iconst 4) := ⟨by decide +kernel, rfl⟩
theorem d_X9_bestQuestion_38 : kf_dj cX9_bestQuestion 38 41 78 (.if_icmp .ge) := ⟨40, by decide +kernel, rfl, by decide⟩
theorem d_X9_bestQuestion_41 : kf_dq cX9_bestQuestion 41 42 1 (.aload_n 0) := ⟨by decide +kernel, rfl⟩
theorem d_X9_bestQuestion_42 : kf_dq cX9_bestQuestion 42 44 2 (.iload 5) := ⟨by decide +kernel, rfl⟩
theorem d_X9_bestQuestion_44 : kf_dq cX9_bestQuestion 44 46 2 (.iload 6) := ⟨by decide +kernel, rfl⟩
theorem d_X9_bestQuestion_46 : kf_dq cX9_bestQuestion 46 47 1 (.iload_n 2) := ⟨by decide +kernel, rfl⟩
theorem d_X9_bestQuestion_47 : kf_dq cX9_bestQuestion 47 50 3 (.invokevirtual 80) := ⟨by decide +kernel, rfl⟩
theorem d_X9_bestQuestion_50 : kf_dq cX9_bestQuestion 50 52 2 (.istore 7) := ⟨by decide +kernel, rfl⟩
theorem d_X9_bestQuestion_52 : kf_dq cX9_bestQuestion 52 54 2 (.iload 7) := ⟨by decide +kernel, rfl⟩
theorem d_X9_bestQuestion_54 : kf_dq cX9_bestQuestion 54 56 2 (.iload 4) := ⟨by decide +kernel, rfl⟩
theorem d_X9_bestQuestion_56 : kf_dj cX9_bestQuestion 56 59 72 (.if_icmp .ge) := ⟨16, by decide +kernel, rfl, by decide⟩
theorem d_X9_bestQuestion_59 : kf_dq cX9_bestQuestion 59 61 2 (.bipush 10) := ⟨by decide +kernel, rfl⟩
theorem d_X9_bestQuestion_61 : kf_dq cX9_bestQuestion 61 63 2 (.iload 5) := ⟨by decide +kernel, rfl⟩
theorem d_X9_bestQuestion_63 : kf_dq cX9_bestQuestion 63 64 1 (.imul) := ⟨by decide +kernel, rfl⟩
theorem d_X9_bestQuestion_64 : kf_dq cX9_bestQuestion 64 66 2 (.iload 6) := ⟨by decide +kernel, rfl⟩
theorem d_X9_bestQuestion_66 : kf_dq cX9_bestQuestion 66 67 1 (.iadd) := ⟨by decide +kernel, rfl⟩
theorem d_X9_bestQuestion_67 : kf_dq cX9_bestQuestion 67 68 1 (.istore_n 3) := ⟨by decide +kernel, rfl⟩
theorem d_X9_bestQuestion_68 : kf_dq cX9_bestQuestion 68 70 2 (.iload 7) := ⟨by decide +kernel, rfl⟩
theorem d_X9_bestQuestion_70 : kf_dq cX9_bestQuestion 70 72 2 (.istore 4) := ⟨by decide +kernel, rfl⟩
theorem d_X9_bestQuestion_72 : kf_dq cX9_bestQuestion 72 75 3 (.iinc 6 1) := ⟨by decide +kernel, rfl⟩
theorem d_X9_bestQuestion_75 : kf_dj cX9_bestQuestion 75 78 35 .goto := ⟨(-40), by decide +kernel, rfl, by decide⟩
theorem d_X9_bestQuestion_78 : kf_dq cX9_bestQuestion 78 81 3 (.iinc 5 1) := ⟨by decide +kernel, rfl⟩
theorem d_X9_bestQuestion_81 : kf_dj cX9_bestQuestion 81 84 16 .goto := ⟨(-65), by decide +kernel, rfl, by decide⟩
theorem d_X9_bestQuestion_84 : kf_dq cX9_bestQuestion 84 85 1 (.iload_n 3) := ⟨by decide +kernel, rfl⟩
theorem d_X9_bestQuestion_85 : kf_dq cX9_bestQuestion 85 86 1 (.ireturn) := ⟨by decide +kernel, rfl⟩
def f_X9_bestQuestion_72 (rec16 : Nat → Int32 → Int32 → Int32 → Int32 → kf_St → Option (Int32 × kf_St)) (rec35 : Nat → Int32 → Int32 → Int32 → Int32 → Int32 → kf_St → Option (Int32 × kf_St)) (v0 : Nat) (v2 : Int32) (v3 : Int32) (v4 : Int32) (v5 : Int32) (v6 : Int32) (σ : kf_St) : Option (Int32 × kf_St) :=
  kf_lt (v6 + 1) fun v6_1 =>
  rec35 v0 v2 v3 v4 v5 v6_1 σ
set_option maxRecDepth 100000 in
set_option maxHeartbeats 4000000 in
theorem b_X9_bestQuestion_72 {X : kf_X} {G : kf_G} {rec16 : Nat → Int32 → Int32 → Int32 → Int32 → kf_St → Option (Int32 × kf_St)} {rec35 : Nat → Int32 → Int32 → Int32 → Int32 → Int32 → kf_St → Option (Int32 × kf_St)} {q : (Int32 × kf_St)} (E : kf_ok X G cX9_bestQuestion RX9 8 (some .int) (6)) (hty : kf_wt G) (hrec16 : ∀ (v0 : Nat) (v2 : Int32) (v3 : Int32) (v4 : Int32) (v5 : Int32) (k_v0 : kf_kd G v0 = 10) (σ : kf_St), rec16 v0 v2 v3 v4 v5 σ = some q → kf_WA X G 8 (kf_Q X G (some (.int q.1)) q.2) 16 [(0, .ref (kf_ad G v0)), (2, .int v2), (3, .int v3), (4, .int v4), (5, .int v5)] [] σ) (hrec35 : ∀ (v0 : Nat) (v2 : Int32) (v3 : Int32) (v4 : Int32) (v5 : Int32) (v6 : Int32) (k_v0 : kf_kd G v0 = 10) (σ : kf_St), rec35 v0 v2 v3 v4 v5 v6 σ = some q → kf_WA X G 8 (kf_Q X G (some (.int q.1)) q.2) 35 [(0, .ref (kf_ad G v0)), (2, .int v2), (3, .int v3), (4, .int v4), (5, .int v5), (6, .int v6)] [] σ) (v0 : Nat) (v2 : Int32) (v3 : Int32) (v4 : Int32) (v5 : Int32) (v6 : Int32) (k_v0 : kf_kd G v0 = 10) (σ : kf_St) (h : f_X9_bestQuestion_72 rec16 rec35 v0 v2 v3 v4 v5 v6 σ = some q) : kf_WA X G 8 (kf_Q X G (some (.int q.1)) q.2) 72 [(0, .ref (kf_ad G v0)), (2, .int v2), (3, .int v3), (4, .int v4), (5, .int v5), (6, .int v6)] [] σ := by
  unfold f_X9_bestQuestion_72 at h
  obtain ⟨v6_1, ev6_1, h⟩ := kf_lte h
  refine wa_iinc (lv' := [(6, .int v6_1), (0, .ref (kf_ad G v0)), (2, .int v2), (3, .int v3), (4, .int v4), (5, .int v5)]) v6_1 5 rfl (kf_inc ic_1 ev6_1) (by decide) rfl E d_X9_bestQuestion_72 ?_
  refine wa_goto E d_X9_bestQuestion_75 ?_
  refine wa_sub [1, 2, 3, 4, 5, 0] rfl ?_
  exact hrec35 v0 v2 v3 v4 v5 v6_1 k_v0 σ h
def f_X9_bestQuestion_35_s (rec16 : Nat → Int32 → Int32 → Int32 → Int32 → kf_St → Option (Int32 × kf_St)) (rec35 : Nat → Int32 → Int32 → Int32 → Int32 → Int32 → kf_St → Option (Int32 × kf_St)) (v0 : Nat) (v2 : Int32) (v3 : Int32) (v4 : Int32) (v5 : Int32) (v6 : Int32) (σ : kf_St) : Option (Int32 × kf_St) :=
  if 4 ≤ v6 then
    kf_lt (v5 + 1) fun v5_2 =>
    rec16 v0 v2 v3 v4 v5_2 σ
  else
    (f_X9_mostLeft v0 v5 v6 v2 σ).bind fun q_3 =>
    if v4 ≤ q_3.1 then
      f_X9_bestQuestion_72 rec16 rec35 v0 v2 v3 v4 v5 v6 q_3.2
    else
      kf_lt (((10 * v5) + v6)) fun v3_5 =>
      f_X9_bestQuestion_72 rec16 rec35 v0 v2 v3_5 q_3.1 v5 v6 q_3.2
def f_X9_bestQuestion_35 (rec16 : Nat → Int32 → Int32 → Int32 → Int32 → kf_St → Option (Int32 × kf_St)) : Nat → Nat → Int32 → Int32 → Int32 → Int32 → Int32 → kf_St → Option (Int32 × kf_St)
  | 0, _, _, _, _, _, _, _ => none
  | n + 1, v0, v2, v3, v4, v5, v6, σ => f_X9_bestQuestion_35_s rec16 (f_X9_bestQuestion_35 rec16 n) v0 v2 v3 v4 v5 v6 σ
set_option maxRecDepth 100000 in
set_option maxHeartbeats 4000000 in
theorem b_X9_bestQuestion_35_s {X : kf_X} {G : kf_G} {rec16 : Nat → Int32 → Int32 → Int32 → Int32 → kf_St → Option (Int32 × kf_St)} (rec35 : Nat → Int32 → Int32 → Int32 → Int32 → Int32 → kf_St → Option (Int32 × kf_St)) {q : (Int32 × kf_St)} (E : kf_ok X G cX9_bestQuestion RX9 8 (some .int) (6)) (hty : kf_wt G) (hrec16 : ∀ (v0 : Nat) (v2 : Int32) (v3 : Int32) (v4 : Int32) (v5 : Int32) (k_v0 : kf_kd G v0 = 10) (σ : kf_St), rec16 v0 v2 v3 v4 v5 σ = some q → kf_WA X G 8 (kf_Q X G (some (.int q.1)) q.2) 16 [(0, .ref (kf_ad G v0)), (2, .int v2), (3, .int v3), (4, .int v4), (5, .int v5)] [] σ) (hrec35 : ∀ (v0 : Nat) (v2 : Int32) (v3 : Int32) (v4 : Int32) (v5 : Int32) (v6 : Int32) (k_v0 : kf_kd G v0 = 10) (σ : kf_St), rec35 v0 v2 v3 v4 v5 v6 σ = some q → kf_WA X G 8 (kf_Q X G (some (.int q.1)) q.2) 35 [(0, .ref (kf_ad G v0)), (2, .int v2), (3, .int v3), (4, .int v4), (5, .int v5), (6, .int v6)] [] σ) (v0 : Nat) (v2 : Int32) (v3 : Int32) (v4 : Int32) (v5 : Int32) (v6 : Int32) (k_v0 : kf_kd G v0 = 10) (σ : kf_St) (h : f_X9_bestQuestion_35_s rec16 rec35 v0 v2 v3 v4 v5 v6 σ = some q) : kf_WA X G 8 (kf_Q X G (some (.int q.1)) q.2) 35 [(0, .ref (kf_ad G v0)), (2, .int v2), (3, .int v3), (4, .int v4), (5, .int v5), (6, .int v6)] [] σ := by
  unfold f_X9_bestQuestion_35_s at h
  refine wa_iload 5 rfl E d_X9_bestQuestion_35 ?_
  refine wa_iconst 4 ic_4 E d_X9_bestQuestion_37 ?_
  refine wa_icmp_ge E d_X9_bestQuestion_38 (fun c_1 => ?_) (fun c_1 => ?_)
  · replace h := kf_ift c_1 h
    obtain ⟨v5_2, ev5_2, h⟩ := kf_lte h
    refine wa_iinc (lv' := [(5, .int v5_2), (0, .ref (kf_ad G v0)), (2, .int v2), (3, .int v3), (4, .int v4), (6, .int v6)]) v5_2 4 rfl (kf_inc ic_1 ev5_2) (by decide) rfl E d_X9_bestQuestion_78 ?_
    refine wa_goto E d_X9_bestQuestion_81 ?_
    refine wa_sub [1, 2, 3, 4, 0] rfl ?_
    exact hrec16 v0 v2 v3 v4 v5_2 k_v0 σ h
  · replace h := kf_iff c_1 h
    refine wa_aload_n 0 rfl E d_X9_bestQuestion_41 ?_
    refine wa_iload 4 rfl E d_X9_bestQuestion_42 ?_
    refine wa_iload 5 rfl E d_X9_bestQuestion_44 ?_
    refine wa_iload_n 1 rfl E d_X9_bestQuestion_46 ?_
    obtain ⟨q_3, hq_3, h⟩ := kf_bd h
    refine wa_callV (st2 := [.int q_3.1]) (c_X9_mostLeft hty v0 v5 v6 v2 k_v0 σ hq_3) mv_X9_mostLeft ml_X9_80 k_v0 rfl (Nat.le_of_ble_eq_true rfl) rfl (Nat.le_of_ble_eq_true rfl) E d_X9_bestQuestion_47 rfl ?_
    refine wa_istore (lv' := [(7, .int q_3.1), (0, .ref (kf_ad G v0)), (2, .int v2), (3, .int v3), (4, .int v4), (5, .int v5), (6, .int v6)]) (by decide) rfl E d_X9_bestQuestion_50 ?_
    refine wa_iload 0 rfl E d_X9_bestQuestion_52 ?_
    refine wa_iload 4 rfl E d_X9_bestQuestion_54 ?_
    refine wa_icmp_ge E d_X9_bestQuestion_56 (fun c_4 => ?_) (fun c_4 => ?_)
    · replace h := kf_ift c_4 h
      refine wa_sub [1, 2, 3, 4, 5, 6] rfl ?_
      exact b_X9_bestQuestion_72 E hty hrec16 hrec35 v0 v2 v3 v4 v5 v6 k_v0 q_3.2 h
    · replace h := kf_iff c_4 h
      refine wa_bipush 10 bp_10 E d_X9_bestQuestion_59 ?_
      refine wa_iload 5 rfl E d_X9_bestQuestion_61 ?_
      refine wa_imul E d_X9_bestQuestion_63 ?_
      refine wa_iload 6 rfl E d_X9_bestQuestion_64 ?_
      refine wa_iadd E d_X9_bestQuestion_66 ?_
      obtain ⟨v3_5, ev3_5, h⟩ := kf_lte h
      refine wa_topi ev3_5 ?_
      refine wa_istore_n (lv' := [(3, .int v3_5), (7, .int q_3.1), (0, .ref (kf_ad G v0)), (2, .int v2), (4, .int v4), (5, .int v5), (6, .int v6)]) rfl (by decide) rfl E d_X9_bestQuestion_67 ?_
      refine wa_iload 1 rfl E d_X9_bestQuestion_68 ?_
      refine wa_istore (lv' := [(4, .int q_3.1), (3, .int v3_5), (7, .int q_3.1), (0, .ref (kf_ad G v0)), (2, .int v2), (5, .int v5), (6, .int v6)]) (by decide) rfl E d_X9_bestQuestion_70 ?_
      refine wa_sub [3, 4, 1, 0, 5, 6] rfl ?_
      exact b_X9_bestQuestion_72 E hty hrec16 hrec35 v0 v2 v3_5 q_3.1 v5 v6 k_v0 q_3.2 h
theorem b_X9_bestQuestion_35 {X : kf_X} {G : kf_G} {rec16 : Nat → Int32 → Int32 → Int32 → Int32 → kf_St → Option (Int32 × kf_St)} {q : (Int32 × kf_St)} (E : kf_ok X G cX9_bestQuestion RX9 8 (some .int) (6)) (hty : kf_wt G) (hrec16 : ∀ (v0 : Nat) (v2 : Int32) (v3 : Int32) (v4 : Int32) (v5 : Int32) (k_v0 : kf_kd G v0 = 10) (σ : kf_St), rec16 v0 v2 v3 v4 v5 σ = some q → kf_WA X G 8 (kf_Q X G (some (.int q.1)) q.2) 16 [(0, .ref (kf_ad G v0)), (2, .int v2), (3, .int v3), (4, .int v4), (5, .int v5)] [] σ) : ∀ (N : Nat) (v0 : Nat) (v2 : Int32) (v3 : Int32) (v4 : Int32) (v5 : Int32) (v6 : Int32) (k_v0 : kf_kd G v0 = 10) (σ : kf_St) (_ : f_X9_bestQuestion_35 rec16 N v0 v2 v3 v4 v5 v6 σ = some q), kf_WA X G 8 (kf_Q X G (some (.int q.1)) q.2) 35 [(0, .ref (kf_ad G v0)), (2, .int v2), (3, .int v3), (4, .int v4), (5, .int v5), (6, .int v6)] [] σ
  | 0, _, _, _, _, _, _, _, _, h => by cases h
  | N + 1, v0, v2, v3, v4, v5, v6, k_v0, σ, h => b_X9_bestQuestion_35_s _ E hty hrec16 (b_X9_bestQuestion_35 E hty hrec16 N) v0 v2 v3 v4 v5 v6 k_v0 σ h
def f_X9_bestQuestion_16_s (rec16 : Nat → Int32 → Int32 → Int32 → Int32 → kf_St → Option (Int32 × kf_St)) (v0 : Nat) (v2 : Int32) (v3 : Int32) (v4 : Int32) (v5 : Int32) (σ : kf_St) : Option (Int32 × kf_St) :=
  if (σ.1 (kf_rf v0 1) 0) ≤ v5 then
    some (v3, σ)
  else
    if v2 = 0 then
      some (v3, σ)
    else
      f_X9_bestQuestion_35 rec16 kf_F v0 v2 v3 v4 v5 0 σ
def f_X9_bestQuestion_16 : Nat → Nat → Int32 → Int32 → Int32 → Int32 → kf_St → Option (Int32 × kf_St)
  | 0, _, _, _, _, _, _ => none
  | n + 1, v0, v2, v3, v4, v5, σ => f_X9_bestQuestion_16_s (f_X9_bestQuestion_16 n) v0 v2 v3 v4 v5 σ
set_option maxRecDepth 100000 in
set_option maxHeartbeats 4000000 in
theorem b_X9_bestQuestion_16_s {X : kf_X} {G : kf_G} (rec16 : Nat → Int32 → Int32 → Int32 → Int32 → kf_St → Option (Int32 × kf_St)) {q : (Int32 × kf_St)} (E : kf_ok X G cX9_bestQuestion RX9 8 (some .int) (6)) (hty : kf_wt G) (hrec16 : ∀ (v0 : Nat) (v2 : Int32) (v3 : Int32) (v4 : Int32) (v5 : Int32) (k_v0 : kf_kd G v0 = 10) (σ : kf_St), rec16 v0 v2 v3 v4 v5 σ = some q → kf_WA X G 8 (kf_Q X G (some (.int q.1)) q.2) 16 [(0, .ref (kf_ad G v0)), (2, .int v2), (3, .int v3), (4, .int v4), (5, .int v5)] [] σ) (v0 : Nat) (v2 : Int32) (v3 : Int32) (v4 : Int32) (v5 : Int32) (k_v0 : kf_kd G v0 = 10) (σ : kf_St) (h : f_X9_bestQuestion_16_s rec16 v0 v2 v3 v4 v5 σ = some q) : kf_WA X G 8 (kf_Q X G (some (.int q.1)) q.2) 16 [(0, .ref (kf_ad G v0)), (2, .int v2), (3, .int v3), (4, .int v4), (5, .int v5)] [] σ := by
  unfold f_X9_bestQuestion_16_s at h
  refine wa_iload 4 rfl E d_X9_bestQuestion_16 ?_
  refine wa_aload_n 0 rfl E d_X9_bestQuestion_18 ?_
  refine wa_getR fl_X9_9 k_v0 rfl E d_X9_bestQuestion_19 ?_
  refine wa_getI fl_X9_78 (kf_wtf hty 1 10 k_v0 (by decide) rfl) rfl E d_X9_bestQuestion_22 ?_
  refine wa_icmp_ge E d_X9_bestQuestion_25 (fun c_1 => ?_) (fun c_1 => ?_)
  · replace h := kf_ift c_1 h
    refine wa_iload_n 2 rfl E d_X9_bestQuestion_84 ?_
    cases h
    exact wa_iret E d_X9_bestQuestion_85
  · replace h := kf_iff c_1 h
    refine wa_iload_n 1 rfl E d_X9_bestQuestion_28 ?_
    refine wa_if_eq E d_X9_bestQuestion_29 (fun c_2 => ?_) (fun c_2 => ?_)
    · replace h := kf_ift c_2 h
      refine wa_iload_n 2 rfl E d_X9_bestQuestion_84 ?_
      cases h
      exact wa_iret E d_X9_bestQuestion_85
    · replace h := kf_iff c_2 h
      refine wa_iconst 0 ic_0 E d_X9_bestQuestion_32 ?_
      refine wa_istore (lv' := [(6, .int 0), (0, .ref (kf_ad G v0)), (2, .int v2), (3, .int v3), (4, .int v4), (5, .int v5)]) (by decide) rfl E d_X9_bestQuestion_33 ?_
      refine wa_sub [1, 2, 3, 4, 5, 0] rfl ?_
      exact b_X9_bestQuestion_35 E hty hrec16 kf_F v0 v2 v3 v4 v5 0 k_v0 σ h
theorem b_X9_bestQuestion_16 {X : kf_X} {G : kf_G} {q : (Int32 × kf_St)} (E : kf_ok X G cX9_bestQuestion RX9 8 (some .int) (6)) (hty : kf_wt G) : ∀ (N : Nat) (v0 : Nat) (v2 : Int32) (v3 : Int32) (v4 : Int32) (v5 : Int32) (k_v0 : kf_kd G v0 = 10) (σ : kf_St) (_ : f_X9_bestQuestion_16 N v0 v2 v3 v4 v5 σ = some q), kf_WA X G 8 (kf_Q X G (some (.int q.1)) q.2) 16 [(0, .ref (kf_ad G v0)), (2, .int v2), (3, .int v3), (4, .int v4), (5, .int v5)] [] σ
  | 0, _, _, _, _, _, _, _, h => by cases h
  | N + 1, v0, v2, v3, v4, v5, k_v0, σ, h => b_X9_bestQuestion_16_s _ E hty (b_X9_bestQuestion_16 E hty N) v0 v2 v3 v4 v5 k_v0 σ h
def f_X9_bestQuestion (v0 : Nat) (v1 : Int32) (σ : kf_St) : Option (Int32 × kf_St) :=
  (f_X9_suspects v0 v1 σ).bind fun q_1 =>
  f_X9_bestQuestion_16 kf_F v0 q_1.1 (-2) 6 0 q_1.2
set_option maxRecDepth 100000 in
set_option maxHeartbeats 4000000 in
theorem c_X9_bestQuestion {G : kf_G} (hty : kf_wt G) (v0 : Nat) (v1 : Int32) (k_v0 : kf_kd G v0 = 10) (σ : kf_St) {q : (Int32 × kf_St)} (h : f_X9_bestQuestion v0 v1 σ = some q) : kf_Ct (6) yX9_bestQuestion cX9_bestQuestion 8 (some .int) G [.ref (kf_ad G v0), .int v1] σ (some (.int q.1)) q.2 := by
  refine kf_Ct.of hty.1 (lv := [(0, .ref (kf_ad G v0)), (1, .int v1)]) (by decide +kernel) rfl (Nat.le_of_ble_eq_true rfl) (fun X E => ?_)
  unfold f_X9_bestQuestion at h
  refine wa_aload_n 0 rfl E d_X9_bestQuestion_0 ?_
  refine wa_iload_n 1 rfl E d_X9_bestQuestion_1 ?_
  obtain ⟨q_1, hq_1, h⟩ := kf_bd h
  refine wa_callV (st2 := [.int q_1.1]) (c_X9_suspects hty v0 v1 k_v0 σ hq_1) mv_X9_suspects ml_X9_74 k_v0 rfl (Nat.le_of_ble_eq_true rfl) rfl (Nat.le_of_ble_eq_true rfl) E d_X9_bestQuestion_2 rfl ?_
  refine wa_istore_n (lv' := [(2, .int q_1.1), (0, .ref (kf_ad G v0)), (1, .int v1)]) rfl (by decide) rfl E d_X9_bestQuestion_5 ?_
  refine wa_bipush (-2) bp_m2 E d_X9_bestQuestion_6 ?_
  refine wa_istore_n (lv' := [(3, .int (-2)), (2, .int q_1.1), (0, .ref (kf_ad G v0)), (1, .int v1)]) rfl (by decide) rfl E d_X9_bestQuestion_8 ?_
  refine wa_bipush 6 bp_6 E d_X9_bestQuestion_9 ?_
  refine wa_istore (lv' := [(4, .int 6), (3, .int (-2)), (2, .int q_1.1), (0, .ref (kf_ad G v0)), (1, .int v1)]) (by decide) rfl E d_X9_bestQuestion_11 ?_
  refine wa_iconst 0 ic_0 E d_X9_bestQuestion_13 ?_
  refine wa_istore (lv' := [(5, .int 0), (4, .int 6), (3, .int (-2)), (2, .int q_1.1), (0, .ref (kf_ad G v0)), (1, .int v1)]) (by decide) rfl E d_X9_bestQuestion_14 ?_
  refine wa_sub [4, 3, 2, 1, 0] rfl ?_
  exact b_X9_bestQuestion_16 E hty kf_F v0 q_1.1 (-2) 6 0 k_v0 q_1.2 h
/-! X10_become -/
theorem d_X10_become_0 : kf_dq cX10_become 0 1 1 (.aload_n 0) := ⟨by decide +kernel, rfl⟩
theorem d_X10_become_1 : kf_dq cX10_become 1 2 1 (.aload_n 1) := ⟨by decide +kernel, rfl⟩
theorem d_X10_become_2 : kf_dq cX10_become 2 5 3 (.getfield 53) := ⟨by decide +kernel, rfl⟩
theorem d_X10_become_5 : kf_dq cX10_become 5 8 3 (.putfield 53) := ⟨by decide +kernel, rfl⟩
theorem d_X10_become_8 : kf_dq cX10_become 8 9 1 (.aload_n 0) := ⟨by decide +kernel, rfl⟩
theorem d_X10_become_9 : kf_dq cX10_become 9 10 1 (.aload_n 1) := ⟨by decide +kernel, rfl⟩
theorem d_X10_become_10 : kf_dq cX10_become 10 13 3 (.getfield 57) := ⟨by decide +kernel, rfl⟩
theorem d_X10_become_13 : kf_dq cX10_become 13 16 3 (.putfield 57) := ⟨by decide +kernel, rfl⟩
theorem d_X10_become_16 : kf_dq cX10_become 16 17 1 (.aload_n 0) := ⟨by decide +kernel, rfl⟩
theorem d_X10_become_17 : kf_dq cX10_become 17 18 1 (.aload_n 1) := ⟨by decide +kernel, rfl⟩
theorem d_X10_become_18 : kf_dq cX10_become 18 21 3 (.getfield 60) := ⟨by decide +kernel, rfl⟩
theorem d_X10_become_21 : kf_dq cX10_become 21 24 3 (.putfield 60) := ⟨by decide +kernel, rfl⟩
theorem d_X10_become_24 : kf_dq cX10_become 24 25 1 (.aload_n 0) := ⟨by decide +kernel, rfl⟩
theorem d_X10_become_25 : kf_dq cX10_become 25 26 1 (.aload_n 1) := ⟨by decide +kernel, rfl⟩
theorem d_X10_become_26 : kf_dq cX10_become 26 29 3 (.getfield 63) := ⟨by decide +kernel, rfl⟩
theorem d_X10_become_29 : kf_dq cX10_become 29 32 3 (.putfield 63) := ⟨by decide +kernel, rfl⟩
theorem d_X10_become_32 : kf_dq cX10_become 32 33 1 (.aload_n 0) := ⟨by decide +kernel, rfl⟩
theorem d_X10_become_33 : kf_dq cX10_become 33 34 1 (.aload_n 1) := ⟨by decide +kernel, rfl⟩
theorem d_X10_become_34 : kf_dq cX10_become 34 37 3 (.getfield 66) := ⟨by decide +kernel, rfl⟩
theorem d_X10_become_37 : kf_dq cX10_become 37 40 3 (.putfield 66) := ⟨by decide +kernel, rfl⟩
theorem d_X10_become_40 : kf_dq cX10_become 40 41 1 (.aload_n 0) := ⟨by decide +kernel, rfl⟩
theorem d_X10_become_41 : kf_dq cX10_become 41 42 1 (.aload_n 1) := ⟨by decide +kernel, rfl⟩
theorem d_X10_become_42 : kf_dq cX10_become 42 45 3 (.getfield 69) := ⟨by decide +kernel, rfl⟩
theorem d_X10_become_45 : kf_dq cX10_become 45 48 3 (.putfield 69) := ⟨by decide +kernel, rfl⟩
theorem d_X10_become_48 : kf_dq cX10_become 48 49 1 (.aload_n 1) := ⟨by decide +kernel, rfl⟩
theorem d_X10_become_49 : kf_dq cX10_become 49 52 3 (.getfield 18) := ⟨by decide +kernel, rfl⟩
theorem d_X10_become_52 : kf_dq cX10_become 52 53 1 (.iconst 0) := ⟨by decide +kernel, rfl⟩
theorem d_X10_become_53 : kf_dq cX10_become 53 54 1 (.aload_n 0) := ⟨by decide +kernel, rfl⟩
theorem d_X10_become_54 : kf_dq cX10_become 54 57 3 (.getfield 18) := ⟨by decide +kernel, rfl⟩
theorem d_X10_become_57 : kf_dq cX10_become 57 58 1 (.iconst 0) := ⟨by decide +kernel, rfl⟩
theorem d_X10_become_58 : kf_dq cX10_become 58 60 2 (.bipush 24) := ⟨by decide +kernel, rfl⟩
theorem d_X10_become_60 : kf_dq cX10_become 60 63 3 (.invokestatic 81) := ⟨by decide +kernel, rfl⟩
theorem d_X10_become_63 : kf_dq cX10_become 63 64 1 (.aload_n 1) := ⟨by decide +kernel, rfl⟩
theorem d_X10_become_64 : kf_dq cX10_become 64 67 3 (.getfield 22) := ⟨by decide +kernel, rfl⟩
theorem d_X10_become_67 : kf_dq cX10_become 67 68 1 (.iconst 0) := ⟨by decide +kernel, rfl⟩
theorem d_X10_become_68 : kf_dq cX10_become 68 69 1 (.aload_n 0) := ⟨by decide +kernel, rfl⟩
theorem d_X10_become_69 : kf_dq cX10_become 69 72 3 (.getfield 22) := ⟨by decide +kernel, rfl⟩
theorem d_X10_become_72 : kf_dq cX10_become 72 73 1 (.iconst 0) := ⟨by decide +kernel, rfl⟩
theorem d_X10_become_73 : kf_dq cX10_become 73 75 2 (.bipush 20) := ⟨by decide +kernel, rfl⟩
theorem d_X10_become_75 : kf_dq cX10_become 75 78 3 (.invokestatic 81) := ⟨by decide +kernel, rfl⟩
theorem d_X10_become_78 : kf_dq cX10_become 78 79 1 (.aload_n 1) := ⟨by decide +kernel, rfl⟩
theorem d_X10_become_79 : kf_dq cX10_become 79 82 3 (.getfield 25) := ⟨by decide +kernel, rfl⟩
theorem d_X10_become_82 : kf_dq cX10_become 82 83 1 (.iconst 0) := ⟨by decide +kernel, rfl⟩
theorem d_X10_become_83 : kf_dq cX10_become 83 84 1 (.aload_n 0) := ⟨by decide +kernel, rfl⟩
theorem d_X10_become_84 : kf_dq cX10_become 84 87 3 (.getfield 25) := ⟨by decide +kernel, rfl⟩
theorem d_X10_become_87 : kf_dq cX10_become 87 88 1 (.iconst 0) := ⟨by decide +kernel, rfl⟩
theorem d_X10_become_88 : kf_dq cX10_become 88 90 2 (.bipush 10) := ⟨by decide +kernel, rfl⟩
theorem d_X10_become_90 : kf_dq cX10_become 90 93 3 (.invokestatic 81) := ⟨by decide +kernel, rfl⟩
theorem d_X10_become_93 : kf_dq cX10_become 93 94 1 (.aload_n 1) := ⟨by decide +kernel, rfl⟩
theorem d_X10_become_94 : kf_dq cX10_become 94 97 3 (.getfield 28) := ⟨by decide +kernel, rfl⟩
theorem d_X10_become_97 : kf_dq cX10_become 97 98 1 (.iconst 0) := ⟨by decide +kernel, rfl⟩
theorem d_X10_become_98 : kf_dq cX10_become 98 99 1 (.aload_n 0) := ⟨by decide +kernel, rfl⟩
theorem d_X10_become_99 : kf_dq cX10_become 99 102 3 (.getfield 28) := ⟨by decide +kernel, rfl⟩
theorem d_X10_become_102 : kf_dq cX10_become 102 103 1 (.iconst 0) := ⟨by decide +kernel, rfl⟩
theorem d_X10_become_103 : kf_dq cX10_become 103 105 2 (.bipush 10) := ⟨by decide +kernel, rfl⟩
theorem d_X10_become_105 : kf_dq cX10_become 105 108 3 (.invokestatic 81) := ⟨by decide +kernel, rfl⟩
theorem d_X10_become_108 : kf_dq cX10_become 108 109 1 (.aload_n 1) := ⟨by decide +kernel, rfl⟩
theorem d_X10_become_109 : kf_dq cX10_become 109 112 3 (.getfield 31) := ⟨by decide +kernel, rfl⟩
theorem d_X10_become_112 : kf_dq cX10_become 112 113 1 (.iconst 0) := ⟨by decide +kernel, rfl⟩
theorem d_X10_become_113 : kf_dq cX10_become 113 114 1 (.aload_n 0) := ⟨by decide +kernel, rfl⟩
theorem d_X10_become_114 : kf_dq cX10_become 114 117 3 (.getfield 31) := ⟨by decide +kernel, rfl⟩
theorem d_X10_become_117 : kf_dq cX10_become 117 118 1 (.iconst 0) := ⟨by decide +kernel, rfl⟩
theorem d_X10_become_118 : kf_dq cX10_become 118 120 2 (.bipush 10) := ⟨by decide +kernel, rfl⟩
theorem d_X10_become_120 : kf_dq cX10_become 120 123 3 (.invokestatic 81) := ⟨by decide +kernel, rfl⟩
theorem d_X10_become_123 : kf_dq cX10_become 123 124 1 (.aload_n 1) := ⟨by decide +kernel, rfl⟩
theorem d_X10_become_124 : kf_dq cX10_become 124 127 3 (.getfield 34) := ⟨by decide +kernel, rfl⟩
theorem d_X10_become_127 : kf_dq cX10_become 127 128 1 (.iconst 0) := ⟨by decide +kernel, rfl⟩
theorem d_X10_become_128 : kf_dq cX10_become 128 129 1 (.aload_n 0) := ⟨by decide +kernel, rfl⟩
theorem d_X10_become_129 : kf_dq cX10_become 129 132 3 (.getfield 34) := ⟨by decide +kernel, rfl⟩
theorem d_X10_become_132 : kf_dq cX10_become 132 133 1 (.iconst 0) := ⟨by decide +kernel, rfl⟩
theorem d_X10_become_133 : kf_dq cX10_become 133 135 2 (.bipush 10) := ⟨by decide +kernel, rfl⟩
theorem d_X10_become_135 : kf_dq cX10_become 135 138 3 (.invokestatic 81) := ⟨by decide +kernel, rfl⟩
theorem d_X10_become_138 : kf_dq cX10_become 138 139 1 (.aload_n 0) := ⟨by decide +kernel, rfl⟩
theorem d_X10_become_139 : kf_dq cX10_become 139 142 3 (.getfield 40) := ⟨by decide +kernel, rfl⟩
theorem d_X10_become_142 : kf_dq cX10_become 142 143 1 (.aload_n 1) := ⟨by decide +kernel, rfl⟩
theorem d_X10_become_143 : kf_dq cX10_become 143 146 3 (.getfield 40) := ⟨by decide +kernel, rfl⟩
theorem d_X10_become_146 : kf_dq cX10_become 146 149 3 (.invokevirtual 87) := ⟨by decide +kernel, rfl⟩
theorem d_X10_become_149 : kf_dq cX10_become 149 150 1 (.aload_n 0) := ⟨by decide +kernel, rfl⟩
theorem d_X10_become_150 : kf_dq cX10_become 150 153 3 (.getfield 44) := ⟨by decide +kernel, rfl⟩
theorem d_X10_become_153 : kf_dq cX10_become 153 154 1 (.aload_n 1) := ⟨by decide +kernel, rfl⟩
theorem d_X10_become_154 : kf_dq cX10_become 154 157 3 (.getfield 44) := ⟨by decide +kernel, rfl⟩
theorem d_X10_become_157 : kf_dq cX10_become 157 160 3 (.invokevirtual 87) := ⟨by decide +kernel, rfl⟩
theorem d_X10_become_160 : kf_dq cX10_become 160 161 1 (.aload_n 0) := ⟨by decide +kernel, rfl⟩
theorem d_X10_become_161 : kf_dq cX10_become 161 164 3 (.getfield 47) := ⟨by decide +kernel, rfl⟩
theorem d_X10_become_164 : kf_dq cX10_become 164 165 1 (.aload_n 1) := ⟨by decide +kernel, rfl⟩
theorem d_X10_become_165 : kf_dq cX10_become 165 168 3 (.getfield 47) := ⟨by decide +kernel, rfl⟩
theorem d_X10_become_168 : kf_dq cX10_become 168 171 3 (.invokevirtual 87) := ⟨by decide +kernel, rfl⟩
theorem d_X10_become_171 : kf_dq cX10_become 171 172 1 (.return_) := ⟨by decide +kernel, rfl⟩
def f_X10_become (v0 : Nat) (v1 : Nat) (σ : kf_St) : Option kf_St :=
  kf_lt (kf_wi σ v0 0 (σ.1 v1 0)) fun σ_1 =>
  kf_lt (kf_wi σ_1 v0 1 (σ_1.1 v1 1)) fun σ_2 =>
  kf_lt (kf_wi σ_2 v0 2 (σ_2.1 v1 2)) fun σ_3 =>
  kf_lt (kf_wi σ_3 v0 3 (σ_3.1 v1 3)) fun σ_4 =>
  kf_lt (kf_wi σ_4 v0 4 (σ_4.1 v1 4)) fun σ_5 =>
  kf_lt (kf_wi σ_5 v0 5 (σ_5.1 v1 5)) fun σ_6 =>
  if kf_cok 0 0 24 (kf_ln (kf_rf v1 8)) (kf_ln (kf_rf v0 8)) = true then
  kf_lt (kf_ci σ_6 (kf_rf v1 8) (kf_rf v0 8) (Int32.toNatClampNeg 0) (Int32.toNatClampNeg 0) (Int32.toNatClampNeg 24)) fun σ_8 =>
  if kf_cok 0 0 20 (kf_ln (kf_rf v1 9)) (kf_ln (kf_rf v0 9)) = true then
  kf_lt (kf_ci σ_8 (kf_rf v1 9) (kf_rf v0 9) (Int32.toNatClampNeg 0) (Int32.toNatClampNeg 0) (Int32.toNatClampNeg 20)) fun σ_10 =>
  if kf_cok 0 0 10 (kf_ln (kf_rf v1 10)) (kf_ln (kf_rf v0 10)) = true then
  kf_lt (kf_ci σ_10 (kf_rf v1 10) (kf_rf v0 10) (Int32.toNatClampNeg 0) (Int32.toNatClampNeg 0) (Int32.toNatClampNeg 10)) fun σ_12 =>
  if kf_cok 0 0 10 (kf_ln (kf_rf v1 11)) (kf_ln (kf_rf v0 11)) = true then
  kf_lt (kf_ci σ_12 (kf_rf v1 11) (kf_rf v0 11) (Int32.toNatClampNeg 0) (Int32.toNatClampNeg 0) (Int32.toNatClampNeg 10)) fun σ_14 =>
  if kf_cok 0 0 10 (kf_ln (kf_rf v1 12)) (kf_ln (kf_rf v0 12)) = true then
  kf_lt (kf_ci σ_14 (kf_rf v1 12) (kf_rf v0 12) (Int32.toNatClampNeg 0) (Int32.toNatClampNeg 0) (Int32.toNatClampNeg 10)) fun σ_16 =>
  if kf_cok 0 0 10 (kf_ln (kf_rf v1 13)) (kf_ln (kf_rf v0 13)) = true then
  kf_lt (kf_ci σ_16 (kf_rf v1 13) (kf_rf v0 13) (Int32.toNatClampNeg 0) (Int32.toNatClampNeg 0) (Int32.toNatClampNeg 10)) fun σ_18 =>
  (f_X2_become (kf_rf v0 14) (kf_rf v1 14) σ_18).bind fun q_19 =>
  (f_X2_become (kf_rf v0 15) (kf_rf v1 15) q_19).bind fun q_20 =>
  (f_X2_become (kf_rf v0 16) (kf_rf v1 16) q_20).bind fun q_21 =>
  some q_21
  else none
  else none
  else none
  else none
  else none
  else none
set_option maxRecDepth 100000 in
set_option maxHeartbeats 4000000 in
theorem c_X10_become {G : kf_G} (hty : kf_wt G) (v0 : Nat) (v1 : Nat) (k_v0 : kf_kd G v0 = 11) (k_v1 : kf_kd G v1 = 11) (σ : kf_St) {q : kf_St} (h : f_X10_become v0 v1 σ = some q) : kf_Ct (2) yX10_become cX10_become 2 none G [.ref (kf_ad G v0), .ref (kf_ad G v1)] σ none q := by
  refine kf_Ct.of hty.1 (lv := [(0, .ref (kf_ad G v0)), (1, .ref (kf_ad G v1))]) (by decide +kernel) rfl (Nat.le_of_ble_eq_true rfl) (fun X E => ?_)
  unfold f_X10_become at h
  refine wa_aload_n 0 rfl E d_X10_become_0 ?_
  refine wa_aload_n 1 rfl E d_X10_become_1 ?_
  refine wa_getI fl_X10_53 k_v1 rfl E d_X10_become_2 ?_
  obtain ⟨σ_1, eσ_1, h⟩ := kf_lte h
  refine wa_putI fl_X10_53 fp_10_0 k_v0 rfl (by decide) rfl rfl E d_X10_become_5 eσ_1 ?_
  refine wa_aload_n 0 rfl E d_X10_become_8 ?_
  refine wa_aload_n 1 rfl E d_X10_become_9 ?_
  refine wa_getI fl_X10_57 k_v1 rfl E d_X10_become_10 ?_
  obtain ⟨σ_2, eσ_2, h⟩ := kf_lte h
  refine wa_putI fl_X10_57 fp_10_1 k_v0 rfl (by decide) rfl rfl E d_X10_become_13 eσ_2 ?_
  refine wa_aload_n 0 rfl E d_X10_become_16 ?_
  refine wa_aload_n 1 rfl E d_X10_become_17 ?_
  refine wa_getI fl_X10_60 k_v1 rfl E d_X10_become_18 ?_
  obtain ⟨σ_3, eσ_3, h⟩ := kf_lte h
  refine wa_putI fl_X10_60 fp_10_2 k_v0 rfl (by decide) rfl rfl E d_X10_become_21 eσ_3 ?_
  refine wa_aload_n 0 rfl E d_X10_become_24 ?_
  refine wa_aload_n 1 rfl E d_X10_become_25 ?_
  refine wa_getI fl_X10_63 k_v1 rfl E d_X10_become_26 ?_
  obtain ⟨σ_4, eσ_4, h⟩ := kf_lte h
  refine wa_putI fl_X10_63 fp_10_3 k_v0 rfl (by decide) rfl rfl E d_X10_become_29 eσ_4 ?_
  refine wa_aload_n 0 rfl E d_X10_become_32 ?_
  refine wa_aload_n 1 rfl E d_X10_become_33 ?_
  refine wa_getI fl_X10_66 k_v1 rfl E d_X10_become_34 ?_
  obtain ⟨σ_5, eσ_5, h⟩ := kf_lte h
  refine wa_putI fl_X10_66 fp_10_4 k_v0 rfl (by decide) rfl rfl E d_X10_become_37 eσ_5 ?_
  refine wa_aload_n 0 rfl E d_X10_become_40 ?_
  refine wa_aload_n 1 rfl E d_X10_become_41 ?_
  refine wa_getI fl_X10_69 k_v1 rfl E d_X10_become_42 ?_
  obtain ⟨σ_6, eσ_6, h⟩ := kf_lte h
  refine wa_putI fl_X10_69 fp_10_5 k_v0 rfl (by decide) rfl rfl E d_X10_become_45 eσ_6 ?_
  refine wa_aload_n 1 rfl E d_X10_become_48 ?_
  refine wa_getR fl_X10_18 k_v1 rfl E d_X10_become_49 ?_
  refine wa_iconst 0 ic_0 E d_X10_become_52 ?_
  refine wa_aload_n 0 rfl E d_X10_become_53 ?_
  refine wa_getR fl_X10_18 k_v0 rfl E d_X10_become_54 ?_
  refine wa_iconst 0 ic_0 E d_X10_become_57 ?_
  refine wa_bipush 24 bp_24 E d_X10_become_58 ?_
  obtain ⟨g_7, h⟩ := kf_gd h
  obtain ⟨σ_8, eσ_8, h⟩ := kf_lte h
  refine wa_copyi cw_X10_81 (kf_wtf hty 8 49 k_v1 (by decide) rfl) (kf_wtf hty 8 49 k_v0 (by decide) rfl) g_7 (Nat.le_of_ble_eq_true rfl) (Nat.le_of_ble_eq_true rfl) E d_X10_become_60 eσ_8 ?_
  refine wa_aload_n 1 rfl E d_X10_become_63 ?_
  refine wa_getR fl_X10_22 k_v1 rfl E d_X10_become_64 ?_
  refine wa_iconst 0 ic_0 E d_X10_become_67 ?_
  refine wa_aload_n 0 rfl E d_X10_become_68 ?_
  refine wa_getR fl_X10_22 k_v0 rfl E d_X10_become_69 ?_
  refine wa_iconst 0 ic_0 E d_X10_become_72 ?_
  refine wa_bipush 20 bp_20 E d_X10_become_73 ?_
  obtain ⟨g_9, h⟩ := kf_gd h
  obtain ⟨σ_10, eσ_10, h⟩ := kf_lte h
  refine wa_copyi cw_X10_81 (kf_wtf hty 9 49 k_v1 (by decide) rfl) (kf_wtf hty 9 49 k_v0 (by decide) rfl) g_9 (Nat.le_of_ble_eq_true rfl) (Nat.le_of_ble_eq_true rfl) E d_X10_become_75 eσ_10 ?_
  refine wa_aload_n 1 rfl E d_X10_become_78 ?_
  refine wa_getR fl_X10_25 k_v1 rfl E d_X10_become_79 ?_
  refine wa_iconst 0 ic_0 E d_X10_become_82 ?_
  refine wa_aload_n 0 rfl E d_X10_become_83 ?_
  refine wa_getR fl_X10_25 k_v0 rfl E d_X10_become_84 ?_
  refine wa_iconst 0 ic_0 E d_X10_become_87 ?_
  refine wa_bipush 10 bp_10 E d_X10_become_88 ?_
  obtain ⟨g_11, h⟩ := kf_gd h
  obtain ⟨σ_12, eσ_12, h⟩ := kf_lte h
  refine wa_copyi cw_X10_81 (kf_wtf hty 10 49 k_v1 (by decide) rfl) (kf_wtf hty 10 49 k_v0 (by decide) rfl) g_11 (Nat.le_of_ble_eq_true rfl) (Nat.le_of_ble_eq_true rfl) E d_X10_become_90 eσ_12 ?_
  refine wa_aload_n 1 rfl E d_X10_become_93 ?_
  refine wa_getR fl_X10_28 k_v1 rfl E d_X10_become_94 ?_
  refine wa_iconst 0 ic_0 E d_X10_become_97 ?_
  refine wa_aload_n 0 rfl E d_X10_become_98 ?_
  refine wa_getR fl_X10_28 k_v0 rfl E d_X10_become_99 ?_
  refine wa_iconst 0 ic_0 E d_X10_become_102 ?_
  refine wa_bipush 10 bp_10 E d_X10_become_103 ?_
  obtain ⟨g_13, h⟩ := kf_gd h
  obtain ⟨σ_14, eσ_14, h⟩ := kf_lte h
  refine wa_copyi cw_X10_81 (kf_wtf hty 11 49 k_v1 (by decide) rfl) (kf_wtf hty 11 49 k_v0 (by decide) rfl) g_13 (Nat.le_of_ble_eq_true rfl) (Nat.le_of_ble_eq_true rfl) E d_X10_become_105 eσ_14 ?_
  refine wa_aload_n 1 rfl E d_X10_become_108 ?_
  refine wa_getR fl_X10_31 k_v1 rfl E d_X10_become_109 ?_
  refine wa_iconst 0 ic_0 E d_X10_become_112 ?_
  refine wa_aload_n 0 rfl E d_X10_become_113 ?_
  refine wa_getR fl_X10_31 k_v0 rfl E d_X10_become_114 ?_
  refine wa_iconst 0 ic_0 E d_X10_become_117 ?_
  refine wa_bipush 10 bp_10 E d_X10_become_118 ?_
  obtain ⟨g_15, h⟩ := kf_gd h
  obtain ⟨σ_16, eσ_16, h⟩ := kf_lte h
  refine wa_copyi cw_X10_81 (kf_wtf hty 12 49 k_v1 (by decide) rfl) (kf_wtf hty 12 49 k_v0 (by decide) rfl) g_15 (Nat.le_of_ble_eq_true rfl) (Nat.le_of_ble_eq_true rfl) E d_X10_become_120 eσ_16 ?_
  refine wa_aload_n 1 rfl E d_X10_become_123 ?_
  refine wa_getR fl_X10_34 k_v1 rfl E d_X10_become_124 ?_
  refine wa_iconst 0 ic_0 E d_X10_become_127 ?_
  refine wa_aload_n 0 rfl E d_X10_become_128 ?_
  refine wa_getR fl_X10_34 k_v0 rfl E d_X10_become_129 ?_
  refine wa_iconst 0 ic_0 E d_X10_become_132 ?_
  refine wa_bipush 10 bp_10 E d_X10_become_133 ?_
  obtain ⟨g_17, h⟩ := kf_gd h
  obtain ⟨σ_18, eσ_18, h⟩ := kf_lte h
  refine wa_copyi cw_X10_81 (kf_wtf hty 13 49 k_v1 (by decide) rfl) (kf_wtf hty 13 49 k_v0 (by decide) rfl) g_17 (Nat.le_of_ble_eq_true rfl) (Nat.le_of_ble_eq_true rfl) E d_X10_become_135 eσ_18 ?_
  refine wa_aload_n 0 rfl E d_X10_become_138 ?_
  refine wa_getR fl_X10_40 k_v0 rfl E d_X10_become_139 ?_
  refine wa_aload_n 1 rfl E d_X10_become_142 ?_
  refine wa_getR fl_X10_40 k_v1 rfl E d_X10_become_143 ?_
  obtain ⟨q_19, hq_19, h⟩ := kf_bd h
  refine wa_callV (st2 := []) (c_X2_become hty (kf_rf v0 14) (kf_rf v1 14) (kf_wtf hty 14 2 k_v0 (by decide) rfl) (kf_wtf hty 14 2 k_v1 (by decide) rfl) σ_18 hq_19) mv_X2_become ml_X10_87 (kf_wtf hty 14 2 k_v0 (by decide) rfl) rfl (Nat.le_of_ble_eq_true rfl) rfl (Nat.le_of_ble_eq_true rfl) E d_X10_become_146 rfl ?_
  refine wa_aload_n 0 rfl E d_X10_become_149 ?_
  refine wa_getR fl_X10_44 k_v0 rfl E d_X10_become_150 ?_
  refine wa_aload_n 1 rfl E d_X10_become_153 ?_
  refine wa_getR fl_X10_44 k_v1 rfl E d_X10_become_154 ?_
  obtain ⟨q_20, hq_20, h⟩ := kf_bd h
  refine wa_callV (st2 := []) (c_X2_become hty (kf_rf v0 15) (kf_rf v1 15) (kf_wtf hty 15 2 k_v0 (by decide) rfl) (kf_wtf hty 15 2 k_v1 (by decide) rfl) q_19 hq_20) mv_X2_become ml_X10_87 (kf_wtf hty 15 2 k_v0 (by decide) rfl) rfl (Nat.le_of_ble_eq_true rfl) rfl (Nat.le_of_ble_eq_true rfl) E d_X10_become_157 rfl ?_
  refine wa_aload_n 0 rfl E d_X10_become_160 ?_
  refine wa_getR fl_X10_47 k_v0 rfl E d_X10_become_161 ?_
  refine wa_aload_n 1 rfl E d_X10_become_164 ?_
  refine wa_getR fl_X10_47 k_v1 rfl E d_X10_become_165 ?_
  obtain ⟨q_21, hq_21, h⟩ := kf_bd h
  refine wa_callV (st2 := []) (c_X2_become hty (kf_rf v0 16) (kf_rf v1 16) (kf_wtf hty 16 2 k_v0 (by decide) rfl) (kf_wtf hty 16 2 k_v1 (by decide) rfl) q_20 hq_21) mv_X2_become ml_X10_87 (kf_wtf hty 16 2 k_v0 (by decide) rfl) rfl (Nat.le_of_ble_eq_true rfl) rfl (Nat.le_of_ble_eq_true rfl) E d_X10_become_168 rfl ?_
  cases h
  exact wa_vret E d_X10_become_171
/-! X10_hasDoor -/
theorem d_X10_hasDoor_0 : kf_dq cX10_hasDoor 0 1 1 (.iload_n 1) := ⟨by decide +kernel, rfl⟩
theorem d_X10_hasDoor_1 : kf_dj cX10_hasDoor 1 4 16 (.ifCond .lt) := ⟨15, by decide +kernel, rfl, by decide⟩
theorem d_X10_hasDoor_4 : kf_dq cX10_hasDoor 4 5 1 (.iload_n 1) := ⟨by decide +kernel, rfl⟩
theorem d_X10_hasDoor_5 : kf_dq cX10_hasDoor 5 6 1 (.aload_n 0) := ⟨by decide +kernel, rfl⟩
theorem d_X10_hasDoor_6 : kf_dq cX10_hasDoor 6 9 3 (.getfield 53) := ⟨by decide +kernel, rfl⟩
theorem d_X10_hasDoor_9 : kf_dj cX10_hasDoor 9 12 16 (.if_icmp .ge) := ⟨7, by decide +kernel, rfl, by decide⟩
theorem d_X10_hasDoor_12 : kf_dq cX10_hasDoor 12 13 1 (.iconst 1) := ⟨by decide +kernel, rfl⟩
theorem d_X10_hasDoor_13 : kf_dj cX10_hasDoor 13 16 17 .goto := ⟨4, by decide +kernel, rfl, by decide⟩
theorem d_X10_hasDoor_16 : kf_dq cX10_hasDoor 16 17 1 (.iconst 0) := ⟨by decide +kernel, rfl⟩
theorem d_X10_hasDoor_17 : kf_dq cX10_hasDoor 17 18 1 (.ireturn) := ⟨by decide +kernel, rfl⟩
def f_X10_hasDoor (v0 : Nat) (v1 : Int32) (σ : kf_St) : Option (Int32 × kf_St) :=
  if v1 < 0 then
    some (0, σ)
  else
    if (σ.1 v0 0) ≤ v1 then
      some (0, σ)
    else
      some (1, σ)
set_option maxRecDepth 100000 in
set_option maxHeartbeats 4000000 in
theorem c_X10_hasDoor {G : kf_G} (hty : kf_wt G) (v0 : Nat) (v1 : Int32) (k_v0 : kf_kd G v0 = 11) (σ : kf_St) {q : (Int32 × kf_St)} (h : f_X10_hasDoor v0 v1 σ = some q) : kf_Ct (1) yX10_hasDoor cX10_hasDoor 2 (some .boolean) G [.ref (kf_ad G v0), .int v1] σ (some (.int q.1)) q.2 := by
  refine kf_Ct.of hty.1 (lv := [(0, .ref (kf_ad G v0)), (1, .int v1)]) (by decide +kernel) rfl (Nat.le_of_ble_eq_true rfl) (fun X E => ?_)
  unfold f_X10_hasDoor at h
  refine wa_iload_n 1 rfl E d_X10_hasDoor_0 ?_
  refine wa_if_lt E d_X10_hasDoor_1 (fun c_1 => ?_) (fun c_1 => ?_)
  · replace h := kf_ift c_1 h
    refine wa_iconst 0 ic_0 E d_X10_hasDoor_16 ?_
    cases h
    exact wa_zret kf_z0 E d_X10_hasDoor_17
  · replace h := kf_iff c_1 h
    refine wa_iload_n 1 rfl E d_X10_hasDoor_4 ?_
    refine wa_aload_n 0 rfl E d_X10_hasDoor_5 ?_
    refine wa_getI fl_X10_53 k_v0 rfl E d_X10_hasDoor_6 ?_
    refine wa_icmp_ge E d_X10_hasDoor_9 (fun c_2 => ?_) (fun c_2 => ?_)
    · replace h := kf_ift c_2 h
      refine wa_iconst 0 ic_0 E d_X10_hasDoor_16 ?_
      cases h
      exact wa_zret kf_z0 E d_X10_hasDoor_17
    · replace h := kf_iff c_2 h
      refine wa_iconst 1 ic_1 E d_X10_hasDoor_12 ?_
      refine wa_goto E d_X10_hasDoor_13 ?_
      cases h
      exact wa_zret kf_z1 E d_X10_hasDoor_17
/-! X10_hasCaller -/
theorem d_X10_hasCaller_0 : kf_dq cX10_hasCaller 0 1 1 (.iload_n 1) := ⟨by decide +kernel, rfl⟩
theorem d_X10_hasCaller_1 : kf_dj cX10_hasCaller 1 4 16 (.ifCond .lt) := ⟨15, by decide +kernel, rfl, by decide⟩
theorem d_X10_hasCaller_4 : kf_dq cX10_hasCaller 4 5 1 (.iload_n 1) := ⟨by decide +kernel, rfl⟩
theorem d_X10_hasCaller_5 : kf_dq cX10_hasCaller 5 6 1 (.aload_n 0) := ⟨by decide +kernel, rfl⟩
theorem d_X10_hasCaller_6 : kf_dq cX10_hasCaller 6 9 3 (.getfield 57) := ⟨by decide +kernel, rfl⟩
theorem d_X10_hasCaller_9 : kf_dj cX10_hasCaller 9 12 16 (.if_icmp .ge) := ⟨7, by decide +kernel, rfl, by decide⟩
theorem d_X10_hasCaller_12 : kf_dq cX10_hasCaller 12 13 1 (.iconst 1) := ⟨by decide +kernel, rfl⟩
theorem d_X10_hasCaller_13 : kf_dj cX10_hasCaller 13 16 17 .goto := ⟨4, by decide +kernel, rfl, by decide⟩
theorem d_X10_hasCaller_16 : kf_dq cX10_hasCaller 16 17 1 (.iconst 0) := ⟨by decide +kernel, rfl⟩
theorem d_X10_hasCaller_17 : kf_dq cX10_hasCaller 17 18 1 (.ireturn) := ⟨by decide +kernel, rfl⟩
def f_X10_hasCaller (v0 : Nat) (v1 : Int32) (σ : kf_St) : Option (Int32 × kf_St) :=
  if v1 < 0 then
    some (0, σ)
  else
    if (σ.1 v0 1) ≤ v1 then
      some (0, σ)
    else
      some (1, σ)
set_option maxRecDepth 100000 in
set_option maxHeartbeats 4000000 in
theorem c_X10_hasCaller {G : kf_G} (hty : kf_wt G) (v0 : Nat) (v1 : Int32) (k_v0 : kf_kd G v0 = 11) (σ : kf_St) {q : (Int32 × kf_St)} (h : f_X10_hasCaller v0 v1 σ = some q) : kf_Ct (1) yX10_hasCaller cX10_hasCaller 2 (some .boolean) G [.ref (kf_ad G v0), .int v1] σ (some (.int q.1)) q.2 := by
  refine kf_Ct.of hty.1 (lv := [(0, .ref (kf_ad G v0)), (1, .int v1)]) (by decide +kernel) rfl (Nat.le_of_ble_eq_true rfl) (fun X E => ?_)
  unfold f_X10_hasCaller at h
  refine wa_iload_n 1 rfl E d_X10_hasCaller_0 ?_
  refine wa_if_lt E d_X10_hasCaller_1 (fun c_1 => ?_) (fun c_1 => ?_)
  · replace h := kf_ift c_1 h
    refine wa_iconst 0 ic_0 E d_X10_hasCaller_16 ?_
    cases h
    exact wa_zret kf_z0 E d_X10_hasCaller_17
  · replace h := kf_iff c_1 h
    refine wa_iload_n 1 rfl E d_X10_hasCaller_4 ?_
    refine wa_aload_n 0 rfl E d_X10_hasCaller_5 ?_
    refine wa_getI fl_X10_57 k_v0 rfl E d_X10_hasCaller_6 ?_
    refine wa_icmp_ge E d_X10_hasCaller_9 (fun c_2 => ?_) (fun c_2 => ?_)
    · replace h := kf_ift c_2 h
      refine wa_iconst 0 ic_0 E d_X10_hasCaller_16 ?_
      cases h
      exact wa_zret kf_z0 E d_X10_hasCaller_17
    · replace h := kf_iff c_2 h
      refine wa_iconst 1 ic_1 E d_X10_hasCaller_12 ?_
      refine wa_goto E d_X10_hasCaller_13 ?_
      cases h
      exact wa_zret kf_z1 E d_X10_hasCaller_17
/-! X10_hasBoth -/
theorem d_X10_hasBoth_0 : kf_dq cX10_hasBoth 0 1 1 (.aload_n 0) := ⟨by decide +kernel, rfl⟩
theorem d_X10_hasBoth_1 : kf_dq cX10_hasBoth 1 2 1 (.iload_n 1) := ⟨by decide +kernel, rfl⟩
theorem d_X10_hasBoth_2 : kf_dq cX10_hasBoth 2 5 3 (.invokevirtual 91) := ⟨by decide +kernel, rfl⟩
theorem d_X10_hasBoth_5 : kf_dj cX10_hasBoth 5 8 20 (.ifCond .eq) := ⟨15, by decide +kernel, rfl, by decide⟩
theorem d_X10_hasBoth_8 : kf_dq cX10_hasBoth 8 9 1 (.aload_n 0) := ⟨by decide +kernel, rfl⟩
theorem d_X10_hasBoth_9 : kf_dq cX10_hasBoth 9 10 1 (.iload_n 2) := ⟨by decide +kernel, rfl⟩
theorem d_X10_hasBoth_10 : kf_dq cX10_hasBoth 10 13 3 (.invokevirtual 95) := ⟨by decide +kernel, rfl⟩
theorem d_X10_hasBoth_13 : kf_dj cX10_hasBoth 13 16 20 (.ifCond .eq) := ⟨7, by decide +kernel, rfl, by decide⟩
theorem d_X10_hasBoth_16 : kf_dq cX10_hasBoth 16 17 1 (.iconst 1) := ⟨by decide +kernel, rfl⟩
theorem d_X10_hasBoth_17 : kf_dj cX10_hasBoth 17 20 21 .goto := ⟨4, by decide +kernel, rfl, by decide⟩
theorem d_X10_hasBoth_20 : kf_dq cX10_hasBoth 20 21 1 (.iconst 0) := ⟨by decide +kernel, rfl⟩
theorem d_X10_hasBoth_21 : kf_dq cX10_hasBoth 21 22 1 (.ireturn) := ⟨by decide +kernel, rfl⟩
def f_X10_hasBoth (v0 : Nat) (v1 : Int32) (v2 : Int32) (σ : kf_St) : Option (Int32 × kf_St) :=
  (f_X10_hasDoor v0 v1 σ).bind fun q_1 =>
  if q_1.1 = 0 then
    some (0, q_1.2)
  else
    (f_X10_hasCaller v0 v2 q_1.2).bind fun q_3 =>
    if q_3.1 = 0 then
      some (0, q_3.2)
    else
      some (1, q_3.2)
set_option maxRecDepth 100000 in
set_option maxHeartbeats 4000000 in
theorem c_X10_hasBoth {G : kf_G} (hty : kf_wt G) (v0 : Nat) (v1 : Int32) (v2 : Int32) (k_v0 : kf_kd G v0 = 11) (σ : kf_St) {q : (Int32 × kf_St)} (h : f_X10_hasBoth v0 v1 v2 σ = some q) : kf_Ct (2) yX10_hasBoth cX10_hasBoth 3 (some .boolean) G [.ref (kf_ad G v0), .int v1, .int v2] σ (some (.int q.1)) q.2 := by
  refine kf_Ct.of hty.1 (lv := [(0, .ref (kf_ad G v0)), (1, .int v1), (2, .int v2)]) (by decide +kernel) rfl (Nat.le_of_ble_eq_true rfl) (fun X E => ?_)
  unfold f_X10_hasBoth at h
  refine wa_aload_n 0 rfl E d_X10_hasBoth_0 ?_
  refine wa_iload_n 1 rfl E d_X10_hasBoth_1 ?_
  obtain ⟨q_1, hq_1, h⟩ := kf_bd h
  refine wa_callV (st2 := [.int q_1.1]) (c_X10_hasDoor hty v0 v1 k_v0 σ hq_1) mv_X10_hasDoor ml_X10_91 k_v0 rfl (Nat.le_of_ble_eq_true rfl) rfl (Nat.le_of_ble_eq_true rfl) E d_X10_hasBoth_2 rfl ?_
  refine wa_if_eq E d_X10_hasBoth_5 (fun c_2 => ?_) (fun c_2 => ?_)
  · replace h := kf_ift c_2 h
    refine wa_iconst 0 ic_0 E d_X10_hasBoth_20 ?_
    cases h
    exact wa_zret kf_z0 E d_X10_hasBoth_21
  · replace h := kf_iff c_2 h
    refine wa_aload_n 0 rfl E d_X10_hasBoth_8 ?_
    refine wa_iload_n 2 rfl E d_X10_hasBoth_9 ?_
    obtain ⟨q_3, hq_3, h⟩ := kf_bd h
    refine wa_callV (st2 := [.int q_3.1]) (c_X10_hasCaller hty v0 v2 k_v0 q_1.2 hq_3) mv_X10_hasCaller ml_X10_95 k_v0 rfl (Nat.le_of_ble_eq_true rfl) rfl (Nat.le_of_ble_eq_true rfl) E d_X10_hasBoth_10 rfl ?_
    refine wa_if_eq E d_X10_hasBoth_13 (fun c_4 => ?_) (fun c_4 => ?_)
    · replace h := kf_ift c_4 h
      refine wa_iconst 0 ic_0 E d_X10_hasBoth_20 ?_
      cases h
      exact wa_zret kf_z0 E d_X10_hasBoth_21
    · replace h := kf_iff c_4 h
      refine wa_iconst 1 ic_1 E d_X10_hasBoth_16 ?_
      refine wa_goto E d_X10_hasBoth_17 ?_
      cases h
      exact wa_zret kf_z1 E d_X10_hasBoth_21
/-! X10_hasRound -/
theorem d_X10_hasRound_0 : kf_dq cX10_hasRound 0 1 1 (.iload_n 1) := ⟨by decide +kernel, rfl⟩
theorem d_X10_hasRound_1 : kf_dj cX10_hasRound 1 4 16 (.ifCond .lt) := ⟨15, by decide +kernel, rfl, by decide⟩
theorem d_X10_hasRound_4 : kf_dq cX10_hasRound 4 5 1 (.iload_n 1) := ⟨by decide +kernel, rfl⟩
theorem d_X10_hasRound_5 : kf_dq cX10_hasRound 5 6 1 (.aload_n 0) := ⟨by decide +kernel, rfl⟩
theorem d_X10_hasRound_6 : kf_dq cX10_hasRound 6 9 3 (.getfield 60) := ⟨by decide +kernel, rfl⟩
theorem d_X10_hasRound_9 : kf_dj cX10_hasRound 9 12 16 (.if_icmp .ge) := ⟨7, by decide +kernel, rfl, by decide⟩
theorem d_X10_hasRound_12 : kf_dq cX10_hasRound 12 13 1 (.iconst 1) := ⟨by decide +kernel, rfl⟩
theorem d_X10_hasRound_13 : kf_dj cX10_hasRound 13 16 17 .goto := ⟨4, by decide +kernel, rfl, by decide⟩
theorem d_X10_hasRound_16 : kf_dq cX10_hasRound 16 17 1 (.iconst 0) := ⟨by decide +kernel, rfl⟩
theorem d_X10_hasRound_17 : kf_dq cX10_hasRound 17 18 1 (.ireturn) := ⟨by decide +kernel, rfl⟩
def f_X10_hasRound (v0 : Nat) (v1 : Int32) (σ : kf_St) : Option (Int32 × kf_St) :=
  if v1 < 0 then
    some (0, σ)
  else
    if (σ.1 v0 2) ≤ v1 then
      some (0, σ)
    else
      some (1, σ)
set_option maxRecDepth 100000 in
set_option maxHeartbeats 4000000 in
theorem c_X10_hasRound {G : kf_G} (hty : kf_wt G) (v0 : Nat) (v1 : Int32) (k_v0 : kf_kd G v0 = 11) (σ : kf_St) {q : (Int32 × kf_St)} (h : f_X10_hasRound v0 v1 σ = some q) : kf_Ct (1) yX10_hasRound cX10_hasRound 2 (some .boolean) G [.ref (kf_ad G v0), .int v1] σ (some (.int q.1)) q.2 := by
  refine kf_Ct.of hty.1 (lv := [(0, .ref (kf_ad G v0)), (1, .int v1)]) (by decide +kernel) rfl (Nat.le_of_ble_eq_true rfl) (fun X E => ?_)
  unfold f_X10_hasRound at h
  refine wa_iload_n 1 rfl E d_X10_hasRound_0 ?_
  refine wa_if_lt E d_X10_hasRound_1 (fun c_1 => ?_) (fun c_1 => ?_)
  · replace h := kf_ift c_1 h
    refine wa_iconst 0 ic_0 E d_X10_hasRound_16 ?_
    cases h
    exact wa_zret kf_z0 E d_X10_hasRound_17
  · replace h := kf_iff c_1 h
    refine wa_iload_n 1 rfl E d_X10_hasRound_4 ?_
    refine wa_aload_n 0 rfl E d_X10_hasRound_5 ?_
    refine wa_getI fl_X10_60 k_v0 rfl E d_X10_hasRound_6 ?_
    refine wa_icmp_ge E d_X10_hasRound_9 (fun c_2 => ?_) (fun c_2 => ?_)
    · replace h := kf_ift c_2 h
      refine wa_iconst 0 ic_0 E d_X10_hasRound_16 ?_
      cases h
      exact wa_zret kf_z0 E d_X10_hasRound_17
    · replace h := kf_iff c_2 h
      refine wa_iconst 1 ic_1 E d_X10_hasRound_12 ?_
      refine wa_goto E d_X10_hasRound_13 ?_
      cases h
      exact wa_zret kf_z1 E d_X10_hasRound_17
/-! X11_feed -/
theorem d_X11_feed_0 : kf_dq cX11_feed 0 1 1 (.aload_n 0) := ⟨by decide +kernel, rfl⟩
theorem d_X11_feed_1 : kf_dq cX11_feed 1 4 3 (.getfield 10) := ⟨by decide +kernel, rfl⟩
theorem d_X11_feed_4 : kf_dq cX11_feed 4 6 2 (.bipush 20) := ⟨by decide +kernel, rfl⟩
theorem d_X11_feed_6 : kf_dq cX11_feed 6 9 3 (.invokevirtual 83) := ⟨by decide +kernel, rfl⟩
theorem d_X11_feed_9 : kf_dj cX11_feed 9 12 14 (.ifCond .ne) := ⟨5, by decide +kernel, rfl, by decide⟩
theorem d_X11_feed_12 : kf_dq cX11_feed 12 13 1 (.iconst (-1)) := ⟨by decide +kernel, rfl⟩
theorem d_X11_feed_13 : kf_dq cX11_feed 13 14 1 (.ireturn) := ⟨by decide +kernel, rfl⟩
theorem d_X11_feed_14 : kf_dq cX11_feed 14 15 1 (.aload_n 0) := ⟨by decide +kernel, rfl⟩
theorem d_X11_feed_15 : kf_dq cX11_feed 15 18 3 (.getfield 10) := ⟨by decide +kernel, rfl⟩
theorem d_X11_feed_18 : kf_dq cX11_feed 18 19 1 (.iload_n 1) := ⟨by decide +kernel, rfl⟩
theorem d_X11_feed_19 : kf_dq cX11_feed 19 22 3 (.invokevirtual 87) := ⟨by decide +kernel, rfl⟩
theorem d_X11_feed_22 : kf_dq cX11_feed 22 23 1 (.aload_n 0) := ⟨by decide +kernel, rfl⟩
theorem d_X11_feed_23 : kf_dq cX11_feed 23 26 3 (.getfield 10) := ⟨by decide +kernel, rfl⟩
theorem d_X11_feed_26 : kf_dq cX11_feed 26 27 1 (.iload_n 2) := ⟨by decide +kernel, rfl⟩
theorem d_X11_feed_27 : kf_dq cX11_feed 27 30 3 (.invokevirtual 87) := ⟨by decide +kernel, rfl⟩
theorem d_X11_feed_30 : kf_dq cX11_feed 30 31 1 (.aload_n 0) := ⟨by decide +kernel, rfl⟩
theorem d_X11_feed_31 : kf_dq cX11_feed 31 34 3 (.getfield 10) := ⟨by decide +kernel, rfl⟩
theorem d_X11_feed_34 : kf_dq cX11_feed 34 35 1 (.iload_n 3) := ⟨by decide +kernel, rfl⟩
theorem d_X11_feed_35 : kf_dq cX11_feed 35 38 3 (.invokevirtual 87) := ⟨by decide +kernel, rfl⟩
theorem d_X11_feed_38 : kf_dq cX11_feed 38 39 1 (.aload_n 0) := ⟨by decide +kernel, rfl⟩
theorem d_X11_feed_39 : kf_dq cX11_feed 39 42 3 (.getfield 10) := ⟨by decide +kernel, rfl⟩
theorem d_X11_feed_42 : kf_dq cX11_feed 42 44 2 (.iload 4) := ⟨by decide +kernel, rfl⟩
theorem d_X11_feed_44 : kf_dq cX11_feed 44 47 3 (.invokevirtual 87) := ⟨by decide +kernel, rfl⟩
theorem d_X11_feed_47 : kf_dq cX11_feed 47 48 1 (.aload_n 0) := ⟨by decide +kernel, rfl⟩
theorem d_X11_feed_48 : kf_dq cX11_feed 48 51 3 (.getfield 10) := ⟨by decide +kernel, rfl⟩
theorem d_X11_feed_51 : kf_dq cX11_feed 51 53 2 (.iload 5) := ⟨by decide +kernel, rfl⟩
theorem d_X11_feed_53 : kf_dq cX11_feed 53 56 3 (.invokevirtual 87) := ⟨by decide +kernel, rfl⟩
theorem d_X11_feed_56 : kf_dq cX11_feed 56 57 1 (.aload_n 0) := ⟨by decide +kernel, rfl⟩
theorem d_X11_feed_57 : kf_dq cX11_feed 57 60 3 (.getfield 10) := ⟨by decide +kernel, rfl⟩
theorem d_X11_feed_60 : kf_dq cX11_feed 60 63 3 (.getfield 91) := ⟨by decide +kernel, rfl⟩
theorem d_X11_feed_63 : kf_dq cX11_feed 63 64 1 (.ireturn) := ⟨by decide +kernel, rfl⟩
def f_X11_feed (v0 : Nat) (v1 : Int32) (v2 : Int32) (v3 : Int32) (v4 : Int32) (v5 : Int32) (σ : kf_St) : Option (Int32 × kf_St) :=
  (f_X8_hasRoomFor (kf_rf v0 0) 20 σ).bind fun q_1 =>
  if q_1.1 = 0 then
    some ((-1), q_1.2)
  else
    (f_X8_addFour (kf_rf v0 0) v1 q_1.2).bind fun q_3 =>
    (f_X8_addFour (kf_rf v0 0) v2 q_3).bind fun q_4 =>
    (f_X8_addFour (kf_rf v0 0) v3 q_4).bind fun q_5 =>
    (f_X8_addFour (kf_rf v0 0) v4 q_5).bind fun q_6 =>
    (f_X8_addFour (kf_rf v0 0) v5 q_6).bind fun q_7 =>
    some ((q_7.1 (kf_rf v0 0) 0), q_7)
set_option maxRecDepth 100000 in
set_option maxHeartbeats 4000000 in
theorem c_X11_feed {G : kf_G} (hty : kf_wt G) (v0 : Nat) (v1 : Int32) (v2 : Int32) (v3 : Int32) (v4 : Int32) (v5 : Int32) (k_v0 : kf_kd G v0 = 12) (σ : kf_St) {q : (Int32 × kf_St)} (h : f_X11_feed v0 v1 v2 v3 v4 v5 σ = some q) : kf_Ct (2) yX11_feed cX11_feed 6 (some .int) G [.ref (kf_ad G v0), .int v1, .int v2, .int v3, .int v4, .int v5] σ (some (.int q.1)) q.2 := by
  refine kf_Ct.of hty.1 (lv := [(0, .ref (kf_ad G v0)), (1, .int v1), (2, .int v2), (3, .int v3), (4, .int v4), (5, .int v5)]) (by decide +kernel) rfl (Nat.le_of_ble_eq_true rfl) (fun X E => ?_)
  unfold f_X11_feed at h
  refine wa_aload_n 0 rfl E d_X11_feed_0 ?_
  refine wa_getR fl_X11_10 k_v0 rfl E d_X11_feed_1 ?_
  refine wa_bipush 20 bp_20 E d_X11_feed_4 ?_
  obtain ⟨q_1, hq_1, h⟩ := kf_bd h
  refine wa_callV (st2 := [.int q_1.1]) (c_X8_hasRoomFor hty (kf_rf v0 0) 20 (kf_wtf hty 0 8 k_v0 (by decide) rfl) σ hq_1) mv_X8_hasRoomFor ml_X11_83 (kf_wtf hty 0 8 k_v0 (by decide) rfl) rfl (Nat.le_of_ble_eq_true rfl) rfl (Nat.le_of_ble_eq_true rfl) E d_X11_feed_6 rfl ?_
  refine wa_if_ne E d_X11_feed_9 (fun c_2 => ?_) (fun c_2 => ?_)
  · replace h := kf_iff c_2 h
    refine wa_aload_n 0 rfl E d_X11_feed_14 ?_
    refine wa_getR fl_X11_10 k_v0 rfl E d_X11_feed_15 ?_
    refine wa_iload_n 1 rfl E d_X11_feed_18 ?_
    obtain ⟨q_3, hq_3, h⟩ := kf_bd h
    refine wa_callV (st2 := []) (c_X8_addFour hty (kf_rf v0 0) v1 (kf_wtf hty 0 8 k_v0 (by decide) rfl) q_1.2 hq_3) mv_X8_addFour ml_X11_87 (kf_wtf hty 0 8 k_v0 (by decide) rfl) rfl (Nat.le_of_ble_eq_true rfl) rfl (Nat.le_of_ble_eq_true rfl) E d_X11_feed_19 rfl ?_
    refine wa_aload_n 0 rfl E d_X11_feed_22 ?_
    refine wa_getR fl_X11_10 k_v0 rfl E d_X11_feed_23 ?_
    refine wa_iload_n 2 rfl E d_X11_feed_26 ?_
    obtain ⟨q_4, hq_4, h⟩ := kf_bd h
    refine wa_callV (st2 := []) (c_X8_addFour hty (kf_rf v0 0) v2 (kf_wtf hty 0 8 k_v0 (by decide) rfl) q_3 hq_4) mv_X8_addFour ml_X11_87 (kf_wtf hty 0 8 k_v0 (by decide) rfl) rfl (Nat.le_of_ble_eq_true rfl) rfl (Nat.le_of_ble_eq_true rfl) E d_X11_feed_27 rfl ?_
    refine wa_aload_n 0 rfl E d_X11_feed_30 ?_
    refine wa_getR fl_X11_10 k_v0 rfl E d_X11_feed_31 ?_
    refine wa_iload_n 3 rfl E d_X11_feed_34 ?_
    obtain ⟨q_5, hq_5, h⟩ := kf_bd h
    refine wa_callV (st2 := []) (c_X8_addFour hty (kf_rf v0 0) v3 (kf_wtf hty 0 8 k_v0 (by decide) rfl) q_4 hq_5) mv_X8_addFour ml_X11_87 (kf_wtf hty 0 8 k_v0 (by decide) rfl) rfl (Nat.le_of_ble_eq_true rfl) rfl (Nat.le_of_ble_eq_true rfl) E d_X11_feed_35 rfl ?_
    refine wa_aload_n 0 rfl E d_X11_feed_38 ?_
    refine wa_getR fl_X11_10 k_v0 rfl E d_X11_feed_39 ?_
    refine wa_iload 4 rfl E d_X11_feed_42 ?_
    obtain ⟨q_6, hq_6, h⟩ := kf_bd h
    refine wa_callV (st2 := []) (c_X8_addFour hty (kf_rf v0 0) v4 (kf_wtf hty 0 8 k_v0 (by decide) rfl) q_5 hq_6) mv_X8_addFour ml_X11_87 (kf_wtf hty 0 8 k_v0 (by decide) rfl) rfl (Nat.le_of_ble_eq_true rfl) rfl (Nat.le_of_ble_eq_true rfl) E d_X11_feed_44 rfl ?_
    refine wa_aload_n 0 rfl E d_X11_feed_47 ?_
    refine wa_getR fl_X11_10 k_v0 rfl E d_X11_feed_48 ?_
    refine wa_iload 5 rfl E d_X11_feed_51 ?_
    obtain ⟨q_7, hq_7, h⟩ := kf_bd h
    refine wa_callV (st2 := []) (c_X8_addFour hty (kf_rf v0 0) v5 (kf_wtf hty 0 8 k_v0 (by decide) rfl) q_6 hq_7) mv_X8_addFour ml_X11_87 (kf_wtf hty 0 8 k_v0 (by decide) rfl) rfl (Nat.le_of_ble_eq_true rfl) rfl (Nat.le_of_ble_eq_true rfl) E d_X11_feed_53 rfl ?_
    refine wa_aload_n 0 rfl E d_X11_feed_56 ?_
    refine wa_getR fl_X11_10 k_v0 rfl E d_X11_feed_57 ?_
    refine wa_getI fl_X11_91 (kf_wtf hty 0 8 k_v0 (by decide) rfl) rfl E d_X11_feed_60 ?_
    cases h
    exact wa_iret E d_X11_feed_63
  · replace h := kf_ift c_2 h
    refine wa_iconst (-1) ic_m1 E d_X11_feed_12 ?_
    cases h
    exact wa_iret E d_X11_feed_13
/-! X11_back -/
theorem d_X11_back_0 : kf_dq cX11_back 0 1 1 (.iload_n 1) := ⟨by decide +kernel, rfl⟩
theorem d_X11_back_1 : kf_dj cX11_back 1 4 15 (.ifCond .lt) := ⟨14, by decide +kernel, rfl, by decide⟩
theorem d_X11_back_4 : kf_dq cX11_back 4 5 1 (.iload_n 1) := ⟨by decide +kernel, rfl⟩
theorem d_X11_back_5 : kf_dq cX11_back 5 6 1 (.aload_n 0) := ⟨by decide +kernel, rfl⟩
theorem d_X11_back_6 : kf_dq cX11_back 6 9 3 (.getfield 10) := ⟨by decide +kernel, rfl⟩
theorem d_X11_back_9 : kf_dq cX11_back 9 12 3 (.getfield 91) := ⟨by decide +kernel, rfl⟩
theorem d_X11_back_12 : kf_dj cX11_back 12 15 17 (.if_icmp .le) := ⟨5, by decide +kernel, rfl, by decide⟩
theorem d_X11_back_15 : kf_dq cX11_back 15 16 1 (.iconst (-1)) := ⟨by decide +kernel, rfl⟩
theorem d_X11_back_16 : kf_dq cX11_back 16 17 1 (.ireturn) := ⟨by decide +kernel, rfl⟩
theorem d_X11_back_17 : kf_dq cX11_back 17 18 1 (.aload_n 0) := ⟨by decide +kernel, rfl⟩
theorem d_X11_back_18 : kf_dq cX11_back 18 21 3 (.getfield 10) := ⟨by decide +kernel, rfl⟩
theorem d_X11_back_21 : kf_dq cX11_back 21 22 1 (.dup) := ⟨by decide +kernel, rfl⟩
theorem d_X11_back_22 : kf_dq cX11_back 22 25 3 (.getfield 91) := ⟨by decide +kernel, rfl⟩
theorem d_X11_back_25 : kf_dq cX11_back 25 26 1 (.iload_n 1) := ⟨by decide +kernel, rfl⟩
theorem d_X11_back_26 : kf_dq cX11_back 26 27 1 (.isub) := ⟨by decide +kernel, rfl⟩
theorem d_X11_back_27 : kf_dq cX11_back 27 30 3 (.putfield 91) := ⟨by decide +kernel, rfl⟩
theorem d_X11_back_30 : kf_dq cX11_back 30 31 1 (.aload_n 0) := ⟨by decide +kernel, rfl⟩
theorem d_X11_back_31 : kf_dq cX11_back 31 34 3 (.getfield 10) := ⟨by decide +kernel, rfl⟩
theorem d_X11_back_34 : kf_dq cX11_back 34 37 3 (.getfield 91) := ⟨by decide +kernel, rfl⟩
theorem d_X11_back_37 : kf_dq cX11_back 37 38 1 (.ireturn) := ⟨by decide +kernel, rfl⟩
def f_X11_back (v0 : Nat) (v1 : Int32) (σ : kf_St) : Option (Int32 × kf_St) :=
  if v1 < 0 then
    some ((-1), σ)
  else
    if v1 ≤ (σ.1 (kf_rf v0 0) 0) then
      kf_lt (kf_wi σ (kf_rf v0 0) 0 ((σ.1 (kf_rf v0 0) 0) - v1)) fun σ_3 =>
      some ((σ_3.1 (kf_rf v0 0) 0), σ_3)
    else
      some ((-1), σ)
set_option maxRecDepth 100000 in
set_option maxHeartbeats 4000000 in
theorem c_X11_back {G : kf_G} (hty : kf_wt G) (v0 : Nat) (v1 : Int32) (k_v0 : kf_kd G v0 = 12) (σ : kf_St) {q : (Int32 × kf_St)} (h : f_X11_back v0 v1 σ = some q) : kf_Ct (1) yX11_back cX11_back 2 (some .int) G [.ref (kf_ad G v0), .int v1] σ (some (.int q.1)) q.2 := by
  refine kf_Ct.of hty.1 (lv := [(0, .ref (kf_ad G v0)), (1, .int v1)]) (by decide +kernel) rfl (Nat.le_of_ble_eq_true rfl) (fun X E => ?_)
  unfold f_X11_back at h
  refine wa_iload_n 1 rfl E d_X11_back_0 ?_
  refine wa_if_lt E d_X11_back_1 (fun c_1 => ?_) (fun c_1 => ?_)
  · replace h := kf_ift c_1 h
    refine wa_iconst (-1) ic_m1 E d_X11_back_15 ?_
    cases h
    exact wa_iret E d_X11_back_16
  · replace h := kf_iff c_1 h
    refine wa_iload_n 1 rfl E d_X11_back_4 ?_
    refine wa_aload_n 0 rfl E d_X11_back_5 ?_
    refine wa_getR fl_X11_10 k_v0 rfl E d_X11_back_6 ?_
    refine wa_getI fl_X11_91 (kf_wtf hty 0 8 k_v0 (by decide) rfl) rfl E d_X11_back_9 ?_
    refine wa_icmp_le E d_X11_back_12 (fun c_2 => ?_) (fun c_2 => ?_)
    · replace h := kf_ift c_2 h
      refine wa_aload_n 0 rfl E d_X11_back_17 ?_
      refine wa_getR fl_X11_10 k_v0 rfl E d_X11_back_18 ?_
      refine wa_dup rfl E d_X11_back_21 ?_
      refine wa_getI fl_X11_91 (kf_wtf hty 0 8 k_v0 (by decide) rfl) rfl E d_X11_back_22 ?_
      refine wa_iload_n 1 rfl E d_X11_back_25 ?_
      refine wa_isub E d_X11_back_26 ?_
      obtain ⟨σ_3, eσ_3, h⟩ := kf_lte h
      refine wa_putI fl_X11_91 fp_8_0 (kf_wtf hty 0 8 k_v0 (by decide) rfl) rfl (by decide) rfl rfl E d_X11_back_27 eσ_3 ?_
      refine wa_aload_n 0 rfl E d_X11_back_30 ?_
      refine wa_getR fl_X11_10 k_v0 rfl E d_X11_back_31 ?_
      refine wa_getI fl_X11_91 (kf_wtf hty 0 8 k_v0 (by decide) rfl) rfl E d_X11_back_34 ?_
      cases h
      exact wa_iret E d_X11_back_37
    · replace h := kf_iff c_2 h
      refine wa_iconst (-1) ic_m1 E d_X11_back_15 ?_
      cases h
      exact wa_iret E d_X11_back_16
/-! X11_read -/
theorem d_X11_read_0 : kf_dq cX11_read 0 1 1 (.aload_n 0) := ⟨by decide +kernel, rfl⟩
theorem d_X11_read_1 : kf_dq cX11_read 1 4 3 (.getfield 31) := ⟨by decide +kernel, rfl⟩
theorem d_X11_read_4 : kf_dq cX11_read 4 7 3 (.invokevirtual 95) := ⟨by decide +kernel, rfl⟩
theorem d_X11_read_7 : kf_dq cX11_read 7 8 1 (.aload_n 0) := ⟨by decide +kernel, rfl⟩
theorem d_X11_read_8 : kf_dq cX11_read 8 11 3 (.getfield 10) := ⟨by decide +kernel, rfl⟩
theorem d_X11_read_11 : kf_dq cX11_read 11 12 1 (.iconst 0) := ⟨by decide +kernel, rfl⟩
theorem d_X11_read_12 : kf_dq cX11_read 12 15 3 (.putfield 91) := ⟨by decide +kernel, rfl⟩
theorem d_X11_read_15 : kf_dq cX11_read 15 16 1 (.aload_n 0) := ⟨by decide +kernel, rfl⟩
theorem d_X11_read_16 : kf_dq cX11_read 16 19 3 (.getfield 31) := ⟨by decide +kernel, rfl⟩
theorem d_X11_read_19 : kf_dq cX11_read 19 22 3 (.getfield 98) := ⟨by decide +kernel, rfl⟩
theorem d_X11_read_22 : kf_dj cX11_read 22 25 62 (.ifCond .ne) := ⟨40, by decide +kernel, rfl, by decide⟩
theorem d_X11_read_25 : kf_dq cX11_read 25 26 1 (.aload_n 0) := ⟨by decide +kernel, rfl⟩
theorem d_X11_read_26 : kf_dq cX11_read 26 29 3 (.getfield 19) := ⟨by decide +kernel, rfl⟩
theorem d_X11_read_29 : kf_dq cX11_read 29 30 1 (.aload_n 0) := ⟨by decide +kernel, rfl⟩
theorem d_X11_read_30 : kf_dq cX11_read 30 33 3 (.getfield 23) := ⟨by decide +kernel, rfl⟩
theorem d_X11_read_33 : kf_dq cX11_read 33 36 3 (.invokevirtual 101) := ⟨by decide +kernel, rfl⟩
theorem d_X11_read_36 : kf_dq cX11_read 36 37 1 (.aload_n 0) := ⟨by decide +kernel, rfl⟩
theorem d_X11_read_37 : kf_dq cX11_read 37 40 3 (.getfield 38) := ⟨by decide +kernel, rfl⟩
theorem d_X11_read_40 : kf_dq cX11_read 40 41 1 (.aload_n 0) := ⟨by decide +kernel, rfl⟩
theorem d_X11_read_41 : kf_dq cX11_read 41 44 3 (.getfield 19) := ⟨by decide +kernel, rfl⟩
theorem d_X11_read_44 : kf_dq cX11_read 44 47 3 (.invokevirtual 104) := ⟨by decide +kernel, rfl⟩
theorem d_X11_read_47 : kf_dq cX11_read 47 48 1 (.aload_n 0) := ⟨by decide +kernel, rfl⟩
theorem d_X11_read_48 : kf_dq cX11_read 48 51 3 (.getfield 45) := ⟨by decide +kernel, rfl⟩
theorem d_X11_read_51 : kf_dq cX11_read 51 54 3 (.invokevirtual 107) := ⟨by decide +kernel, rfl⟩
theorem d_X11_read_54 : kf_dq cX11_read 54 55 1 (.aload_n 0) := ⟨by decide +kernel, rfl⟩
theorem d_X11_read_55 : kf_dq cX11_read 55 58 3 (.getfield 79) := ⟨by decide +kernel, rfl⟩
theorem d_X11_read_58 : kf_dq cX11_read 58 59 1 (.iconst 0) := ⟨by decide +kernel, rfl⟩
theorem d_X11_read_59 : kf_dq cX11_read 59 62 3 (.putfield 110) := ⟨by decide +kernel, rfl⟩
theorem d_X11_read_62 : kf_dq cX11_read 62 63 1 (.aload_n 0) := ⟨by decide +kernel, rfl⟩
theorem d_X11_read_63 : kf_dq cX11_read 63 66 3 (.getfield 31) := ⟨by decide +kernel, rfl⟩
theorem d_X11_read_66 : kf_dq cX11_read 66 69 3 (.getfield 98) := ⟨by decide +kernel, rfl⟩
theorem d_X11_read_69 : kf_dq cX11_read 69 70 1 (.ireturn) := ⟨by decide +kernel, rfl⟩
def f_X11_read_62 (v0 : Nat) (σ : kf_St) : Option (Int32 × kf_St) :=
  some ((σ.1 (kf_rf v0 3) 0), σ)
set_option maxRecDepth 100000 in
set_option maxHeartbeats 4000000 in
theorem b_X11_read_62 {X : kf_X} {G : kf_G} {q : (Int32 × kf_St)} (E : kf_ok X G cX11_read RX11 1 (some .int) (41)) (hty : kf_wt G) (v0 : Nat) (k_v0 : kf_kd G v0 = 12) (σ : kf_St) (h : f_X11_read_62 v0 σ = some q) : kf_WA X G 1 (kf_Q X G (some (.int q.1)) q.2) 62 [(0, .ref (kf_ad G v0))] [] σ := by
  unfold f_X11_read_62 at h
  refine wa_aload_n 0 rfl E d_X11_read_62 ?_
  refine wa_getR fl_X11_31 k_v0 rfl E d_X11_read_63 ?_
  refine wa_getI fl_X11_98 (kf_wtf hty 3 6 k_v0 (by decide) rfl) rfl E d_X11_read_66 ?_
  cases h
  exact wa_iret E d_X11_read_69
def f_X11_read (v0 : Nat) (σ : kf_St) : Option (Int32 × kf_St) :=
  (f_X6_readWhole (kf_rf v0 3) σ).bind fun q_1 =>
  kf_lt (kf_wi q_1 (kf_rf v0 0) 0 0) fun σ_2 =>
  if (σ_2.1 (kf_rf v0 3) 0) = 0 then
    (f_X10_become (kf_rf v0 1) (kf_rf v0 2) σ_2).bind fun q_4 =>
    (f_X7_begin (kf_rf v0 4) (kf_rf v0 1) q_4).bind fun q_5 =>
    (f_X3_forgetAll (kf_rf v0 5) q_5).bind fun q_6 =>
    kf_lt (kf_wi q_6 (kf_rf v0 9) 0 0) fun σ_7 =>
    f_X11_read_62 v0 σ_7
  else
    f_X11_read_62 v0 σ_2
set_option maxRecDepth 100000 in
set_option maxHeartbeats 4000000 in
theorem c_X11_read {G : kf_G} (hty : kf_wt G) (v0 : Nat) (k_v0 : kf_kd G v0 = 12) (σ : kf_St) {q : (Int32 × kf_St)} (h : f_X11_read v0 σ = some q) : kf_Ct (41) yX11_read cX11_read 1 (some .int) G [.ref (kf_ad G v0)] σ (some (.int q.1)) q.2 := by
  refine kf_Ct.of hty.1 (lv := [(0, .ref (kf_ad G v0))]) (by decide +kernel) rfl (Nat.le_of_ble_eq_true rfl) (fun X E => ?_)
  unfold f_X11_read at h
  refine wa_aload_n 0 rfl E d_X11_read_0 ?_
  refine wa_getR fl_X11_31 k_v0 rfl E d_X11_read_1 ?_
  obtain ⟨q_1, hq_1, h⟩ := kf_bd h
  refine wa_callV (st2 := []) (c_X6_readWhole hty (kf_rf v0 3) (kf_wtf hty 3 6 k_v0 (by decide) rfl) σ hq_1) mv_X6_readWhole ml_X11_95 (kf_wtf hty 3 6 k_v0 (by decide) rfl) rfl (Nat.le_of_ble_eq_true rfl) rfl (Nat.le_of_ble_eq_true rfl) E d_X11_read_4 rfl ?_
  refine wa_aload_n 0 rfl E d_X11_read_7 ?_
  refine wa_getR fl_X11_10 k_v0 rfl E d_X11_read_8 ?_
  refine wa_iconst 0 ic_0 E d_X11_read_11 ?_
  obtain ⟨σ_2, eσ_2, h⟩ := kf_lte h
  refine wa_putI fl_X11_91 fp_8_0 (kf_wtf hty 0 8 k_v0 (by decide) rfl) rfl (by decide) rfl rfl E d_X11_read_12 eσ_2 ?_
  refine wa_aload_n 0 rfl E d_X11_read_15 ?_
  refine wa_getR fl_X11_31 k_v0 rfl E d_X11_read_16 ?_
  refine wa_getI fl_X11_98 (kf_wtf hty 3 6 k_v0 (by decide) rfl) rfl E d_X11_read_19 ?_
  refine wa_if_ne E d_X11_read_22 (fun c_3 => ?_) (fun c_3 => ?_)
  · replace h := kf_iff c_3 h
    exact b_X11_read_62 E hty v0 k_v0 σ_2 h
  · replace h := kf_ift c_3 h
    refine wa_aload_n 0 rfl E d_X11_read_25 ?_
    refine wa_getR fl_X11_19 k_v0 rfl E d_X11_read_26 ?_
    refine wa_aload_n 0 rfl E d_X11_read_29 ?_
    refine wa_getR fl_X11_23 k_v0 rfl E d_X11_read_30 ?_
    obtain ⟨q_4, hq_4, h⟩ := kf_bd h
    refine wa_callV (st2 := []) (c_X10_become hty (kf_rf v0 1) (kf_rf v0 2) (kf_wtf hty 1 10 k_v0 (by decide) rfl) (kf_wtf hty 2 10 k_v0 (by decide) rfl) σ_2 hq_4) mv_X10_become ml_X11_101 (kf_wtf hty 1 10 k_v0 (by decide) rfl) rfl (Nat.le_of_ble_eq_true rfl) rfl (Nat.le_of_ble_eq_true rfl) E d_X11_read_33 rfl ?_
    refine wa_aload_n 0 rfl E d_X11_read_36 ?_
    refine wa_getR fl_X11_38 k_v0 rfl E d_X11_read_37 ?_
    refine wa_aload_n 0 rfl E d_X11_read_40 ?_
    refine wa_getR fl_X11_19 k_v0 rfl E d_X11_read_41 ?_
    obtain ⟨q_5, hq_5, h⟩ := kf_bd h
    refine wa_callV (st2 := []) (c_X7_begin hty (kf_rf v0 4) (kf_rf v0 1) (kf_wtf hty 4 7 k_v0 (by decide) rfl) (kf_wtf hty 1 10 k_v0 (by decide) rfl) q_4 hq_5) mv_X7_begin ml_X11_104 (kf_wtf hty 4 7 k_v0 (by decide) rfl) rfl (Nat.le_of_ble_eq_true rfl) rfl (Nat.le_of_ble_eq_true rfl) E d_X11_read_44 rfl ?_
    refine wa_aload_n 0 rfl E d_X11_read_47 ?_
    refine wa_getR fl_X11_45 k_v0 rfl E d_X11_read_48 ?_
    obtain ⟨q_6, hq_6, h⟩ := kf_bd h
    refine wa_callV (st2 := []) (c_X3_forgetAll hty (kf_rf v0 5) (kf_wtf hty 5 3 k_v0 (by decide) rfl) q_5 hq_6) mv_X3_forgetAll ml_X11_107 (kf_wtf hty 5 3 k_v0 (by decide) rfl) rfl (Nat.le_of_ble_eq_true rfl) rfl (Nat.le_of_ble_eq_true rfl) E d_X11_read_51 rfl ?_
    refine wa_aload_n 0 rfl E d_X11_read_54 ?_
    refine wa_getR fl_X11_79 k_v0 rfl E d_X11_read_55 ?_
    refine wa_iconst 0 ic_0 E d_X11_read_58 ?_
    obtain ⟨σ_7, eσ_7, h⟩ := kf_lte h
    refine wa_putI fl_X11_110 fp_9_0 (kf_wtf hty 9 9 k_v0 (by decide) rfl) rfl (by decide) rfl rfl E d_X11_read_59 eσ_7 ?_
    exact b_X11_read_62 E hty v0 k_v0 σ_7 h
/-! X11_place -/
theorem d_X11_place_0 : kf_dq cX11_place 0 1 1 (.aload_n 0) := ⟨by decide +kernel, rfl⟩
theorem d_X11_place_1 : kf_dq cX11_place 1 4 3 (.getfield 31) := ⟨by decide +kernel, rfl⟩
theorem d_X11_place_4 : kf_dq cX11_place 4 7 3 (.getfield 113) := ⟨by decide +kernel, rfl⟩
theorem d_X11_place_7 : kf_dq cX11_place 7 8 1 (.ireturn) := ⟨by decide +kernel, rfl⟩
def f_X11_place (v0 : Nat) (σ : kf_St) : Option (Int32 × kf_St) :=
  some ((σ.1 (kf_rf v0 3) 1), σ)
set_option maxRecDepth 100000 in
set_option maxHeartbeats 4000000 in
theorem c_X11_place {G : kf_G} (hty : kf_wt G) (v0 : Nat) (k_v0 : kf_kd G v0 = 12) (σ : kf_St) {q : (Int32 × kf_St)} (h : f_X11_place v0 σ = some q) : kf_Ct (1) yX11_place cX11_place 1 (some .int) G [.ref (kf_ad G v0)] σ (some (.int q.1)) q.2 := by
  refine kf_Ct.of hty.1 (lv := [(0, .ref (kf_ad G v0))]) (by decide +kernel) rfl (Nat.le_of_ble_eq_true rfl) (fun X E => ?_)
  unfold f_X11_place at h
  refine wa_aload_n 0 rfl E d_X11_place_0 ?_
  refine wa_getR fl_X11_31 k_v0 rfl E d_X11_place_1 ?_
  refine wa_getI fl_X11_113 (kf_wtf hty 3 6 k_v0 (by decide) rfl) rfl E d_X11_place_4 ?_
  cases h
  exact wa_iret E d_X11_place_7
/-! X11_door -/
theorem d_X11_door_0 : kf_dq cX11_door 0 1 1 (.aload_n 0) := ⟨by decide +kernel, rfl⟩
theorem d_X11_door_1 : kf_dq cX11_door 1 4 3 (.getfield 19) := ⟨by decide +kernel, rfl⟩
theorem d_X11_door_4 : kf_dq cX11_door 4 5 1 (.iload_n 1) := ⟨by decide +kernel, rfl⟩
theorem d_X11_door_5 : kf_dq cX11_door 5 8 3 (.invokevirtual 116) := ⟨by decide +kernel, rfl⟩
theorem d_X11_door_8 : kf_dj cX11_door 8 11 13 (.ifCond .ne) := ⟨5, by decide +kernel, rfl, by decide⟩
theorem d_X11_door_11 : kf_dq cX11_door 11 12 1 (.iconst (-1)) := ⟨by decide +kernel, rfl⟩
theorem d_X11_door_12 : kf_dq cX11_door 12 13 1 (.ireturn) := ⟨by decide +kernel, rfl⟩
theorem d_X11_door_13 : kf_dq cX11_door 13 14 1 (.aload_n 0) := ⟨by decide +kernel, rfl⟩
theorem d_X11_door_14 : kf_dq cX11_door 14 17 3 (.getfield 38) := ⟨by decide +kernel, rfl⟩
theorem d_X11_door_17 : kf_dq cX11_door 17 20 3 (.getfield 119) := ⟨by decide +kernel, rfl⟩
theorem d_X11_door_20 : kf_dq cX11_door 20 21 1 (.iload_n 1) := ⟨by decide +kernel, rfl⟩
theorem d_X11_door_21 : kf_dq cX11_door 21 22 1 (.aaload) := ⟨by decide +kernel, rfl⟩
theorem d_X11_door_22 : kf_dq cX11_door 22 23 1 (.astore_n 3) := ⟨by decide +kernel, rfl⟩
theorem d_X11_door_23 : kf_dq cX11_door 23 24 1 (.iload_n 2) := ⟨by decide +kernel, rfl⟩
theorem d_X11_door_24 : decode cX11_door 24 = .ok (.tableswitch 108 0 9 #[56, 56, 56, 56, 63, 68, 73, 78, 83, 95], 56) := by decide +kernel
theorem d_X11_door_80 : kf_dq cX11_door 80 81 1 (.aload_n 3) := ⟨by decide +kernel, rfl⟩
theorem d_X11_door_81 : kf_dq cX11_door 81 84 3 (.getfield 123) := ⟨by decide +kernel, rfl⟩
theorem d_X11_door_84 : kf_dq cX11_door 84 85 1 (.iload_n 2) := ⟨by decide +kernel, rfl⟩
theorem d_X11_door_85 : kf_dq cX11_door 85 86 1 (.iaload) := ⟨by decide +kernel, rfl⟩
theorem d_X11_door_86 : kf_dq cX11_door 86 87 1 (.ireturn) := ⟨by decide +kernel, rfl⟩
theorem d_X11_door_87 : kf_dq cX11_door 87 88 1 (.aload_n 3) := ⟨by decide +kernel, rfl⟩
theorem d_X11_door_88 : kf_dq cX11_door 88 91 3 (.getfield 129) := ⟨by decide +kernel, rfl⟩
theorem d_X11_door_91 : kf_dq cX11_door 91 92 1 (.ireturn) := ⟨by decide +kernel, rfl⟩
theorem d_X11_door_92 : kf_dq cX11_door 92 93 1 (.aload_n 3) := ⟨by decide +kernel, rfl⟩
theorem d_X11_door_93 : kf_dq cX11_door 93 96 3 (.getfield 132) := ⟨by decide +kernel, rfl⟩
theorem d_X11_door_96 : kf_dq cX11_door 96 97 1 (.ireturn) := ⟨by decide +kernel, rfl⟩
theorem d_X11_door_97 : kf_dq cX11_door 97 98 1 (.aload_n 3) := ⟨by decide +kernel, rfl⟩
theorem d_X11_door_98 : kf_dq cX11_door 98 101 3 (.getfield 135) := ⟨by decide +kernel, rfl⟩
theorem d_X11_door_101 : kf_dq cX11_door 101 102 1 (.ireturn) := ⟨by decide +kernel, rfl⟩
theorem d_X11_door_102 : kf_dq cX11_door 102 103 1 (.aload_n 3) := ⟨by decide +kernel, rfl⟩
theorem d_X11_door_103 : kf_dq cX11_door 103 106 3 (.getfield 138) := ⟨by decide +kernel, rfl⟩
theorem d_X11_door_106 : kf_dq cX11_door 106 107 1 (.ireturn) := ⟨by decide +kernel, rfl⟩
theorem d_X11_door_107 : kf_dq cX11_door 107 108 1 (.aload_n 0) := ⟨by decide +kernel, rfl⟩
theorem d_X11_door_108 : kf_dq cX11_door 108 111 3 (.getfield 19) := ⟨by decide +kernel, rfl⟩
theorem d_X11_door_111 : kf_dq cX11_door 111 112 1 (.aload_n 3) := ⟨by decide +kernel, rfl⟩
theorem d_X11_door_112 : kf_dq cX11_door 112 115 3 (.getfield 123) := ⟨by decide +kernel, rfl⟩
theorem d_X11_door_115 : kf_dq cX11_door 115 118 3 (.invokevirtual 141) := ⟨by decide +kernel, rfl⟩
theorem d_X11_door_118 : kf_dq cX11_door 118 119 1 (.ireturn) := ⟨by decide +kernel, rfl⟩
theorem d_X11_door_119 : kf_dq cX11_door 119 120 1 (.aload_n 0) := ⟨by decide +kernel, rfl⟩
theorem d_X11_door_120 : kf_dq cX11_door 120 123 3 (.getfield 38) := ⟨by decide +kernel, rfl⟩
theorem d_X11_door_123 : kf_dq cX11_door 123 124 1 (.iload_n 1) := ⟨by decide +kernel, rfl⟩
theorem d_X11_door_124 : kf_dq cX11_door 124 125 1 (.aload_n 0) := ⟨by decide +kernel, rfl⟩
theorem d_X11_door_125 : kf_dq cX11_door 125 128 3 (.getfield 19) := ⟨by decide +kernel, rfl⟩
theorem d_X11_door_128 : kf_dq cX11_door 128 131 3 (.invokevirtual 145) := ⟨by decide +kernel, rfl⟩
theorem d_X11_door_131 : kf_dq cX11_door 131 132 1 (.ireturn) := ⟨by decide +kernel, rfl⟩
theorem d_X11_door_132 : kf_dq cX11_door 132 133 1 (.iconst (-1)) := ⟨by decide +kernel, rfl⟩
theorem d_X11_door_133 : kf_dq cX11_door 133 134 1 (.ireturn) := ⟨by decide +kernel, rfl⟩
def f_X11_door_80 (v2 : Int32) (v3 : Nat) (σ : kf_St) : Option (Int32 × kf_St) :=
  if kf_ix v2 (kf_ln (kf_rf v3 0)) = true then
  some ((σ.1 (kf_rf v3 0) (Int32.toNatClampNeg v2)), σ)
  else none
set_option maxRecDepth 100000 in
set_option maxHeartbeats 4000000 in
theorem b_X11_door_80 {X : kf_X} {G : kf_G} {q : (Int32 × kf_St)} (E : kf_ok X G cX11_door RX11 4 (some .int) (4)) (hty : kf_wt G) (v2 : Int32) (v3 : Nat) (k_v3 : kf_kd G v3 = 2) (σ : kf_St) (h : f_X11_door_80 v2 v3 σ = some q) : kf_WA X G 4 (kf_Q X G (some (.int q.1)) q.2) 80 [(2, .int v2), (3, .ref (kf_ad G v3))] [] σ := by
  unfold f_X11_door_80 at h
  refine wa_aload_n 1 rfl E d_X11_door_80 ?_
  refine wa_getR fl_X11_123 k_v3 rfl E d_X11_door_81 ?_
  refine wa_iload_n 0 rfl E d_X11_door_84 ?_
  obtain ⟨g_1, h⟩ := kf_gd h
  refine wa_iald (kf_wtf hty 0 49 k_v3 (by decide) rfl) g_1 E d_X11_door_85 ?_
  cases h
  exact wa_iret E d_X11_door_86
def f_X11_door (v0 : Nat) (v1 : Int32) (v2 : Int32) (σ : kf_St) : Option (Int32 × kf_St) :=
  (f_X10_hasDoor (kf_rf v0 1) v1 σ).bind fun q_1 =>
  if q_1.1 = 0 then
    some ((-1), q_1.2)
  else
    if kf_ix v1 (kf_ln (kf_rf (kf_rf v0 4) 0)) = true then
    if v2 = 0 then
      f_X11_door_80 v2 (kf_rf (kf_rf (kf_rf v0 4) 0) (Int32.toNatClampNeg v1)) q_1.2
    else
      if v2 = 1 then
        f_X11_door_80 v2 (kf_rf (kf_rf (kf_rf v0 4) 0) (Int32.toNatClampNeg v1)) q_1.2
      else
        if v2 = 2 then
          f_X11_door_80 v2 (kf_rf (kf_rf (kf_rf v0 4) 0) (Int32.toNatClampNeg v1)) q_1.2
        else
          if v2 = 3 then
            f_X11_door_80 v2 (kf_rf (kf_rf (kf_rf v0 4) 0) (Int32.toNatClampNeg v1)) q_1.2
          else
            if v2 = 4 then
              some ((q_1.2.1 (kf_rf (kf_rf (kf_rf v0 4) 0) (Int32.toNatClampNeg v1)) 1), q_1.2)
            else
              if v2 = 5 then
                some ((q_1.2.1 (kf_rf (kf_rf (kf_rf v0 4) 0) (Int32.toNatClampNeg v1)) 2), q_1.2)
              else
                if v2 = 6 then
                  some ((q_1.2.1 (kf_rf (kf_rf (kf_rf v0 4) 0) (Int32.toNatClampNeg v1)) 3), q_1.2)
                else
                  if v2 = 7 then
                    some ((q_1.2.1 (kf_rf (kf_rf (kf_rf v0 4) 0) (Int32.toNatClampNeg v1)) 4), q_1.2)
                  else
                    if v2 = 8 then
                      (f_X10_knownBy (kf_rf v0 1) (kf_rf (kf_rf (kf_rf (kf_rf v0 4) 0) (Int32.toNatClampNeg v1)) 0) q_1.2).bind fun q_13 =>
                      some (q_13.1, q_13.2)
                    else
                      if v2 = 9 then
                        (f_X7_offFirst (kf_rf v0 4) v1 (kf_rf v0 1) q_1.2).bind fun q_15 =>
                        some (q_15.1, q_15.2)
                      else
                        some ((-1), q_1.2)
    else none
set_option maxRecDepth 100000 in
set_option maxHeartbeats 4000000 in
theorem c_X11_door {G : kf_G} (hty : kf_wt G) (v0 : Nat) (v1 : Int32) (v2 : Int32) (k_v0 : kf_kd G v0 = 12) (σ : kf_St) {q : (Int32 × kf_St)} (h : f_X11_door v0 v1 v2 σ = some q) : kf_Ct (4) yX11_door cX11_door 4 (some .int) G [.ref (kf_ad G v0), .int v1, .int v2] σ (some (.int q.1)) q.2 := by
  refine kf_Ct.of hty.1 (lv := [(0, .ref (kf_ad G v0)), (1, .int v1), (2, .int v2)]) (by decide +kernel) rfl (Nat.le_of_ble_eq_true rfl) (fun X E => ?_)
  unfold f_X11_door at h
  refine wa_aload_n 0 rfl E d_X11_door_0 ?_
  refine wa_getR fl_X11_19 k_v0 rfl E d_X11_door_1 ?_
  refine wa_iload_n 1 rfl E d_X11_door_4 ?_
  obtain ⟨q_1, hq_1, h⟩ := kf_bd h
  refine wa_callV (st2 := [.int q_1.1]) (c_X10_hasDoor hty (kf_rf v0 1) v1 (kf_wtf hty 1 10 k_v0 (by decide) rfl) σ hq_1) mv_X10_hasDoor ml_X11_116 (kf_wtf hty 1 10 k_v0 (by decide) rfl) rfl (Nat.le_of_ble_eq_true rfl) rfl (Nat.le_of_ble_eq_true rfl) E d_X11_door_5 rfl ?_
  refine wa_if_ne E d_X11_door_8 (fun c_2 => ?_) (fun c_2 => ?_)
  · replace h := kf_iff c_2 h
    refine wa_aload_n 0 rfl E d_X11_door_13 ?_
    refine wa_getR fl_X11_38 k_v0 rfl E d_X11_door_14 ?_
    refine wa_getR fl_X11_119 (kf_wtf hty 4 7 k_v0 (by decide) rfl) rfl E d_X11_door_17 ?_
    refine wa_iload_n 1 rfl E d_X11_door_20 ?_
    obtain ⟨g_3, h⟩ := kf_gd h
    refine wa_aald (kf_wtf hty 0 53 (kf_wtf hty 4 7 k_v0 (by decide) rfl) (by decide) rfl) g_3 E d_X11_door_21 ?_
    refine wa_astore_n (lv' := [(3, .ref (kf_ad G (kf_rf (kf_rf (kf_rf v0 4) 0) (Int32.toNatClampNeg v1)))), (0, .ref (kf_ad G v0)), (1, .int v1), (2, .int v2)]) rfl (by decide) rfl E d_X11_door_22 ?_
    refine wa_iload_n 3 rfl E d_X11_door_23 ?_
    by_cases c_4 : v2 = 0
    · replace h := kf_ift c_4 h
      refine wa_tabIn (off := 56) (tgt := 80) (by rw [c_4]; decide) (by rw [c_4]; decide) (by rw [c_4]; rfl) (by decide) E d_X11_door_24 ?_
      refine wa_sub [3, 0] rfl ?_
      exact b_X11_door_80 E hty v2 (kf_rf (kf_rf (kf_rf v0 4) 0) (Int32.toNatClampNeg v1)) (kf_wta hty (kf_wtf hty 0 53 (kf_wtf hty 4 7 k_v0 (by decide) rfl) (by decide) rfl) g_3) q_1.2 h
    · replace h := kf_iff c_4 h
      by_cases c_5 : v2 = 1
      · replace h := kf_ift c_5 h
        refine wa_tabIn (off := 56) (tgt := 80) (by rw [c_5]; decide) (by rw [c_5]; decide) (by rw [c_5]; rfl) (by decide) E d_X11_door_24 ?_
        refine wa_sub [3, 0] rfl ?_
        exact b_X11_door_80 E hty v2 (kf_rf (kf_rf (kf_rf v0 4) 0) (Int32.toNatClampNeg v1)) (kf_wta hty (kf_wtf hty 0 53 (kf_wtf hty 4 7 k_v0 (by decide) rfl) (by decide) rfl) g_3) q_1.2 h
      · replace h := kf_iff c_5 h
        by_cases c_6 : v2 = 2
        · replace h := kf_ift c_6 h
          refine wa_tabIn (off := 56) (tgt := 80) (by rw [c_6]; decide) (by rw [c_6]; decide) (by rw [c_6]; rfl) (by decide) E d_X11_door_24 ?_
          refine wa_sub [3, 0] rfl ?_
          exact b_X11_door_80 E hty v2 (kf_rf (kf_rf (kf_rf v0 4) 0) (Int32.toNatClampNeg v1)) (kf_wta hty (kf_wtf hty 0 53 (kf_wtf hty 4 7 k_v0 (by decide) rfl) (by decide) rfl) g_3) q_1.2 h
        · replace h := kf_iff c_6 h
          by_cases c_7 : v2 = 3
          · replace h := kf_ift c_7 h
            refine wa_tabIn (off := 56) (tgt := 80) (by rw [c_7]; decide) (by rw [c_7]; decide) (by rw [c_7]; rfl) (by decide) E d_X11_door_24 ?_
            refine wa_sub [3, 0] rfl ?_
            exact b_X11_door_80 E hty v2 (kf_rf (kf_rf (kf_rf v0 4) 0) (Int32.toNatClampNeg v1)) (kf_wta hty (kf_wtf hty 0 53 (kf_wtf hty 4 7 k_v0 (by decide) rfl) (by decide) rfl) g_3) q_1.2 h
          · replace h := kf_iff c_7 h
            by_cases c_8 : v2 = 4
            · replace h := kf_ift c_8 h
              refine wa_tabIn (off := 63) (tgt := 87) (by rw [c_8]; decide) (by rw [c_8]; decide) (by rw [c_8]; rfl) (by decide) E d_X11_door_24 ?_
              refine wa_aload_n 0 rfl E d_X11_door_87 ?_
              refine wa_getI fl_X11_129 (kf_wta hty (kf_wtf hty 0 53 (kf_wtf hty 4 7 k_v0 (by decide) rfl) (by decide) rfl) g_3) rfl E d_X11_door_88 ?_
              cases h
              exact wa_iret E d_X11_door_91
            · replace h := kf_iff c_8 h
              by_cases c_9 : v2 = 5
              · replace h := kf_ift c_9 h
                refine wa_tabIn (off := 68) (tgt := 92) (by rw [c_9]; decide) (by rw [c_9]; decide) (by rw [c_9]; rfl) (by decide) E d_X11_door_24 ?_
                refine wa_aload_n 0 rfl E d_X11_door_92 ?_
                refine wa_getI fl_X11_132 (kf_wta hty (kf_wtf hty 0 53 (kf_wtf hty 4 7 k_v0 (by decide) rfl) (by decide) rfl) g_3) rfl E d_X11_door_93 ?_
                cases h
                exact wa_iret E d_X11_door_96
              · replace h := kf_iff c_9 h
                by_cases c_10 : v2 = 6
                · replace h := kf_ift c_10 h
                  refine wa_tabIn (off := 73) (tgt := 97) (by rw [c_10]; decide) (by rw [c_10]; decide) (by rw [c_10]; rfl) (by decide) E d_X11_door_24 ?_
                  refine wa_aload_n 0 rfl E d_X11_door_97 ?_
                  refine wa_getI fl_X11_135 (kf_wta hty (kf_wtf hty 0 53 (kf_wtf hty 4 7 k_v0 (by decide) rfl) (by decide) rfl) g_3) rfl E d_X11_door_98 ?_
                  cases h
                  exact wa_iret E d_X11_door_101
                · replace h := kf_iff c_10 h
                  by_cases c_11 : v2 = 7
                  · replace h := kf_ift c_11 h
                    refine wa_tabIn (off := 78) (tgt := 102) (by rw [c_11]; decide) (by rw [c_11]; decide) (by rw [c_11]; rfl) (by decide) E d_X11_door_24 ?_
                    refine wa_aload_n 0 rfl E d_X11_door_102 ?_
                    refine wa_getI fl_X11_138 (kf_wta hty (kf_wtf hty 0 53 (kf_wtf hty 4 7 k_v0 (by decide) rfl) (by decide) rfl) g_3) rfl E d_X11_door_103 ?_
                    cases h
                    exact wa_iret E d_X11_door_106
                  · replace h := kf_iff c_11 h
                    by_cases c_12 : v2 = 8
                    · replace h := kf_ift c_12 h
                      refine wa_tabIn (off := 83) (tgt := 107) (by rw [c_12]; decide) (by rw [c_12]; decide) (by rw [c_12]; rfl) (by decide) E d_X11_door_24 ?_
                      refine wa_aload_n 1 rfl E d_X11_door_107 ?_
                      refine wa_getR fl_X11_19 k_v0 rfl E d_X11_door_108 ?_
                      refine wa_aload_n 0 rfl E d_X11_door_111 ?_
                      refine wa_getR fl_X11_123 (kf_wta hty (kf_wtf hty 0 53 (kf_wtf hty 4 7 k_v0 (by decide) rfl) (by decide) rfl) g_3) rfl E d_X11_door_112 ?_
                      obtain ⟨q_13, hq_13, h⟩ := kf_bd h
                      refine wa_callV (st2 := [.int q_13.1]) (c_X10_knownBy hty (kf_rf v0 1) (kf_rf (kf_rf (kf_rf (kf_rf v0 4) 0) (Int32.toNatClampNeg v1)) 0) (kf_wtf hty 1 10 k_v0 (by decide) rfl) (kf_wtf hty 0 49 (kf_wta hty (kf_wtf hty 0 53 (kf_wtf hty 4 7 k_v0 (by decide) rfl) (by decide) rfl) g_3) (by decide) rfl) q_1.2 hq_13) mv_X10_knownBy ml_X11_141 (kf_wtf hty 1 10 k_v0 (by decide) rfl) rfl (Nat.le_of_ble_eq_true rfl) rfl (Nat.le_of_ble_eq_true rfl) E d_X11_door_115 rfl ?_
                      cases h
                      exact wa_iret E d_X11_door_118
                    · replace h := kf_iff c_12 h
                      by_cases c_14 : v2 = 9
                      · replace h := kf_ift c_14 h
                        refine wa_tabIn (off := 95) (tgt := 119) (by rw [c_14]; decide) (by rw [c_14]; decide) (by rw [c_14]; rfl) (by decide) E d_X11_door_24 ?_
                        refine wa_aload_n 1 rfl E d_X11_door_119 ?_
                        refine wa_getR fl_X11_38 k_v0 rfl E d_X11_door_120 ?_
                        refine wa_iload_n 2 rfl E d_X11_door_123 ?_
                        refine wa_aload_n 1 rfl E d_X11_door_124 ?_
                        refine wa_getR fl_X11_19 k_v0 rfl E d_X11_door_125 ?_
                        obtain ⟨q_15, hq_15, h⟩ := kf_bd h
                        refine wa_callV (st2 := [.int q_15.1]) (c_X7_offFirst hty (kf_rf v0 4) v1 (kf_rf v0 1) (kf_wtf hty 4 7 k_v0 (by decide) rfl) (kf_wtf hty 1 10 k_v0 (by decide) rfl) q_1.2 hq_15) mv_X7_offFirst ml_X11_145 (kf_wtf hty 4 7 k_v0 (by decide) rfl) rfl (Nat.le_of_ble_eq_true rfl) rfl (Nat.le_of_ble_eq_true rfl) E d_X11_door_128 rfl ?_
                        cases h
                        exact wa_iret E d_X11_door_131
                      · replace h := kf_iff c_14 h
                        refine wa_tabOut (tgt := 132) (kf_out [0, 1, 2, 3, 4, 5, 6, 7, 8, 9] (by decide +kernel) (List.forall_mem_cons.mpr ⟨c_4, List.forall_mem_cons.mpr ⟨c_5, List.forall_mem_cons.mpr ⟨c_6, List.forall_mem_cons.mpr ⟨c_7, List.forall_mem_cons.mpr ⟨c_8, List.forall_mem_cons.mpr ⟨c_9, List.forall_mem_cons.mpr ⟨c_10, List.forall_mem_cons.mpr ⟨c_11, List.forall_mem_cons.mpr ⟨c_12, List.forall_mem_cons.mpr ⟨c_14, fun _ h => absurd h List.not_mem_nil⟩⟩⟩⟩⟩⟩⟩⟩⟩⟩)) (by decide) E d_X11_door_24 ?_
                        refine wa_iconst (-1) ic_m1 E d_X11_door_132 ?_
                        cases h
                        exact wa_iret E d_X11_door_133
  · replace h := kf_ift c_2 h
    refine wa_iconst (-1) ic_m1 E d_X11_door_11 ?_
    cases h
    exact wa_iret E d_X11_door_12
/-! X11_doorsKnownBy -/
theorem d_X11_doorsKnownBy_0 : kf_dq cX11_doorsKnownBy 0 1 1 (.iconst 0) := ⟨by decide +kernel, rfl⟩
theorem d_X11_doorsKnownBy_1 : kf_dq cX11_doorsKnownBy 1 2 1 (.istore_n 2) := ⟨by decide +kernel, rfl⟩
theorem d_X11_doorsKnownBy_2 : kf_dq cX11_doorsKnownBy 2 3 1 (.iconst 0) := ⟨by decide +kernel, rfl⟩
theorem d_X11_doorsKnownBy_3 : kf_dq cX11_doorsKnownBy 3 4 1 (.istore_n 3) := ⟨by decide +kernel, rfl⟩
theorem d_X11_doorsKnownBy_4 : kf_dq cX11_doorsKnownBy 4 5 1 (.iload_n 3) := ⟨by decide +kernel, rfl⟩
theorem d_X11_doorsKnownBy_5 : kf_dq cX11_doorsKnownBy 5 6 1 (.aload_n 0) := ⟨by decide +kernel, rfl⟩
theorem d_X11_doorsKnownBy_6 : kf_dq cX11_doorsKnownBy 6 9 3 (.getfield 19) := ⟨by decide +kernel, rfl⟩
theorem d_X11_doorsKnownBy_9 : kf_dq cX11_doorsKnownBy 9 12 3 (.getfield 256) := ⟨by decide +kernel, rfl⟩
theorem d_X11_doorsKnownBy_12 : kf_dj cX11_doorsKnownBy 12 15 50 (.if_icmp .ge) := ⟨38, by decide +kernel, rfl, by decide⟩
theorem d_X11_doorsKnownBy_15 : kf_dq cX11_doorsKnownBy 15 16 1 (.aload_n 0) := ⟨by decide +kernel, rfl⟩
theorem d_X11_doorsKnownBy_16 : kf_dq cX11_doorsKnownBy 16 19 3 (.getfield 19) := ⟨by decide +kernel, rfl⟩
theorem d_X11_doorsKnownBy_19 : kf_dq cX11_doorsKnownBy 19 20 1 (.aload_n 0) := ⟨by decide +kernel, rfl⟩
theorem d_X11_doorsKnownBy_20 : kf_dq cX11_doorsKnownBy 20 23 3 (.getfield 38) := ⟨by decide +kernel, rfl⟩
theorem d_X11_doorsKnownBy_23 : kf_dq cX11_doorsKnownBy 23 26 3 (.getfield 119) := ⟨by decide +kernel, rfl⟩
theorem d_X11_doorsKnownBy_26 : kf_dq cX11_doorsKnownBy 26 27 1 (.iload_n 3) := ⟨by decide +kernel, rfl⟩
theorem d_X11_doorsKnownBy_27 : kf_dq cX11_doorsKnownBy 27 28 1 (.aaload) := ⟨by decide +kernel, rfl⟩
theorem d_X11_doorsKnownBy_28 : kf_dq cX11_doorsKnownBy 28 31 3 (.getfield 123) := ⟨by decide +kernel, rfl⟩
theorem d_X11_doorsKnownBy_31 : kf_dq cX11_doorsKnownBy 31 34 3 (.invokevirtual 141) := ⟨by decide +kernel, rfl⟩
theorem d_X11_doorsKnownBy_34 : kf_dq cX11_doorsKnownBy 34 35 1 (.iload_n 1) := ⟨by decide +kernel, rfl⟩
theorem d_X11_doorsKnownBy_35 : kf_dj cX11_doorsKnownBy 35 38 44 (.if_icmp .ne) := ⟨9, by decide +kernel, rfl, by decide⟩
theorem d_X11_doorsKnownBy_38 : kf_dq cX11_doorsKnownBy 38 39 1 (.iload_n 2) := ⟨by decide +kernel, rfl⟩
theorem d_X11_doorsKnownBy_39 : kf_dq cX11_doorsKnownBy 39 40 1 (.iconst 1) := ⟨by decide +kernel, rfl⟩
theorem d_X11_doorsKnownBy_40 : kf_dq cX11_doorsKnownBy 40 41 1 (.iload_n 3) := ⟨by decide +kernel, rfl⟩
theorem d_X11_doorsKnownBy_41 : kf_dq cX11_doorsKnownBy 41 42 1 (.ishl) := ⟨by decide +kernel, rfl⟩
theorem d_X11_doorsKnownBy_42 : kf_dq cX11_doorsKnownBy 42 43 1 (.ior) := ⟨by decide +kernel, rfl⟩
theorem d_X11_doorsKnownBy_43 : kf_dq cX11_doorsKnownBy 43 44 1 (.istore_n 2) := ⟨by decide +kernel, rfl⟩
theorem d_X11_doorsKnownBy_44 : kf_dq cX11_doorsKnownBy 44 47 3 (.iinc 3 1) := ⟨by decide +kernel, rfl⟩
theorem d_X11_doorsKnownBy_47 : kf_dj cX11_doorsKnownBy 47 50 4 .goto := ⟨(-43), by decide +kernel, rfl, by decide⟩
theorem d_X11_doorsKnownBy_50 : kf_dq cX11_doorsKnownBy 50 51 1 (.iload_n 2) := ⟨by decide +kernel, rfl⟩
theorem d_X11_doorsKnownBy_51 : kf_dq cX11_doorsKnownBy 51 52 1 (.ireturn) := ⟨by decide +kernel, rfl⟩
def f_X11_doorsKnownBy_44 (rec4 : Nat → Int32 → Int32 → Int32 → kf_St → Option (Int32 × kf_St)) (v0 : Nat) (v1 : Int32) (v2 : Int32) (v3 : Int32) (σ : kf_St) : Option (Int32 × kf_St) :=
  kf_lt (v3 + 1) fun v3_1 =>
  rec4 v0 v1 v2 v3_1 σ
set_option maxRecDepth 100000 in
set_option maxHeartbeats 4000000 in
theorem b_X11_doorsKnownBy_44 {X : kf_X} {G : kf_G} {rec4 : Nat → Int32 → Int32 → Int32 → kf_St → Option (Int32 × kf_St)} {q : (Int32 × kf_St)} (E : kf_ok X G cX11_doorsKnownBy RX11 4 (some .int) (4)) (hty : kf_wt G) (hrec4 : ∀ (v0 : Nat) (v1 : Int32) (v2 : Int32) (v3 : Int32) (k_v0 : kf_kd G v0 = 12) (σ : kf_St), rec4 v0 v1 v2 v3 σ = some q → kf_WA X G 4 (kf_Q X G (some (.int q.1)) q.2) 4 [(0, .ref (kf_ad G v0)), (1, .int v1), (2, .int v2), (3, .int v3)] [] σ) (v0 : Nat) (v1 : Int32) (v2 : Int32) (v3 : Int32) (k_v0 : kf_kd G v0 = 12) (σ : kf_St) (h : f_X11_doorsKnownBy_44 rec4 v0 v1 v2 v3 σ = some q) : kf_WA X G 4 (kf_Q X G (some (.int q.1)) q.2) 44 [(0, .ref (kf_ad G v0)), (1, .int v1), (2, .int v2), (3, .int v3)] [] σ := by
  unfold f_X11_doorsKnownBy_44 at h
  obtain ⟨v3_1, ev3_1, h⟩ := kf_lte h
  refine wa_iinc (lv' := [(3, .int v3_1), (0, .ref (kf_ad G v0)), (1, .int v1), (2, .int v2)]) v3_1 3 rfl (kf_inc ic_1 ev3_1) (by decide) rfl E d_X11_doorsKnownBy_44 ?_
  refine wa_goto E d_X11_doorsKnownBy_47 ?_
  refine wa_sub [1, 2, 3, 0] rfl ?_
  exact hrec4 v0 v1 v2 v3_1 k_v0 σ h
def f_X11_doorsKnownBy_4_s (rec4 : Nat → Int32 → Int32 → Int32 → kf_St → Option (Int32 × kf_St)) (v0 : Nat) (v1 : Int32) (v2 : Int32) (v3 : Int32) (σ : kf_St) : Option (Int32 × kf_St) :=
  if (σ.1 (kf_rf v0 1) 0) ≤ v3 then
    some (v2, σ)
  else
    if kf_ix v3 (kf_ln (kf_rf (kf_rf v0 4) 0)) = true then
    (f_X10_knownBy (kf_rf v0 1) (kf_rf (kf_rf (kf_rf (kf_rf v0 4) 0) (Int32.toNatClampNeg v3)) 0) σ).bind fun q_3 =>
    if q_3.1 = v1 then
      kf_lt ((v2 ||| ((1 : Int32) <<< (v3 &&& 31)))) fun v2_5 =>
      f_X11_doorsKnownBy_44 rec4 v0 v1 v2_5 v3 q_3.2
    else
      f_X11_doorsKnownBy_44 rec4 v0 v1 v2 v3 q_3.2
    else none
def f_X11_doorsKnownBy_4 : Nat → Nat → Int32 → Int32 → Int32 → kf_St → Option (Int32 × kf_St)
  | 0, _, _, _, _, _ => none
  | n + 1, v0, v1, v2, v3, σ => f_X11_doorsKnownBy_4_s (f_X11_doorsKnownBy_4 n) v0 v1 v2 v3 σ
set_option maxRecDepth 100000 in
set_option maxHeartbeats 4000000 in
theorem b_X11_doorsKnownBy_4_s {X : kf_X} {G : kf_G} (rec4 : Nat → Int32 → Int32 → Int32 → kf_St → Option (Int32 × kf_St)) {q : (Int32 × kf_St)} (E : kf_ok X G cX11_doorsKnownBy RX11 4 (some .int) (4)) (hty : kf_wt G) (hrec4 : ∀ (v0 : Nat) (v1 : Int32) (v2 : Int32) (v3 : Int32) (k_v0 : kf_kd G v0 = 12) (σ : kf_St), rec4 v0 v1 v2 v3 σ = some q → kf_WA X G 4 (kf_Q X G (some (.int q.1)) q.2) 4 [(0, .ref (kf_ad G v0)), (1, .int v1), (2, .int v2), (3, .int v3)] [] σ) (v0 : Nat) (v1 : Int32) (v2 : Int32) (v3 : Int32) (k_v0 : kf_kd G v0 = 12) (σ : kf_St) (h : f_X11_doorsKnownBy_4_s rec4 v0 v1 v2 v3 σ = some q) : kf_WA X G 4 (kf_Q X G (some (.int q.1)) q.2) 4 [(0, .ref (kf_ad G v0)), (1, .int v1), (2, .int v2), (3, .int v3)] [] σ := by
  unfold f_X11_doorsKnownBy_4_s at h
  refine wa_iload_n 3 rfl E d_X11_doorsKnownBy_4 ?_
  refine wa_aload_n 0 rfl E d_X11_doorsKnownBy_5 ?_
  refine wa_getR fl_X11_19 k_v0 rfl E d_X11_doorsKnownBy_6 ?_
  refine wa_getI fl_X11_256 (kf_wtf hty 1 10 k_v0 (by decide) rfl) rfl E d_X11_doorsKnownBy_9 ?_
  refine wa_icmp_ge E d_X11_doorsKnownBy_12 (fun c_1 => ?_) (fun c_1 => ?_)
  · replace h := kf_ift c_1 h
    refine wa_iload_n 2 rfl E d_X11_doorsKnownBy_50 ?_
    cases h
    exact wa_iret E d_X11_doorsKnownBy_51
  · replace h := kf_iff c_1 h
    refine wa_aload_n 0 rfl E d_X11_doorsKnownBy_15 ?_
    refine wa_getR fl_X11_19 k_v0 rfl E d_X11_doorsKnownBy_16 ?_
    refine wa_aload_n 0 rfl E d_X11_doorsKnownBy_19 ?_
    refine wa_getR fl_X11_38 k_v0 rfl E d_X11_doorsKnownBy_20 ?_
    refine wa_getR fl_X11_119 (kf_wtf hty 4 7 k_v0 (by decide) rfl) rfl E d_X11_doorsKnownBy_23 ?_
    refine wa_iload_n 3 rfl E d_X11_doorsKnownBy_26 ?_
    obtain ⟨g_2, h⟩ := kf_gd h
    refine wa_aald (kf_wtf hty 0 53 (kf_wtf hty 4 7 k_v0 (by decide) rfl) (by decide) rfl) g_2 E d_X11_doorsKnownBy_27 ?_
    refine wa_getR fl_X11_123 (kf_wta hty (kf_wtf hty 0 53 (kf_wtf hty 4 7 k_v0 (by decide) rfl) (by decide) rfl) g_2) rfl E d_X11_doorsKnownBy_28 ?_
    obtain ⟨q_3, hq_3, h⟩ := kf_bd h
    refine wa_callV (st2 := [.int q_3.1]) (c_X10_knownBy hty (kf_rf v0 1) (kf_rf (kf_rf (kf_rf (kf_rf v0 4) 0) (Int32.toNatClampNeg v3)) 0) (kf_wtf hty 1 10 k_v0 (by decide) rfl) (kf_wtf hty 0 49 (kf_wta hty (kf_wtf hty 0 53 (kf_wtf hty 4 7 k_v0 (by decide) rfl) (by decide) rfl) g_2) (by decide) rfl) σ hq_3) mv_X10_knownBy ml_X11_141 (kf_wtf hty 1 10 k_v0 (by decide) rfl) rfl (Nat.le_of_ble_eq_true rfl) rfl (Nat.le_of_ble_eq_true rfl) E d_X11_doorsKnownBy_31 rfl ?_
    refine wa_iload_n 1 rfl E d_X11_doorsKnownBy_34 ?_
    refine wa_icmp_ne E d_X11_doorsKnownBy_35 (fun c_4 => ?_) (fun c_4 => ?_)
    · replace h := kf_iff c_4 h
      exact b_X11_doorsKnownBy_44 E hty hrec4 v0 v1 v2 v3 k_v0 q_3.2 h
    · replace h := kf_ift c_4 h
      refine wa_iload_n 2 rfl E d_X11_doorsKnownBy_38 ?_
      refine wa_iconst 1 ic_1 E d_X11_doorsKnownBy_39 ?_
      refine wa_iload_n 3 rfl E d_X11_doorsKnownBy_40 ?_
      refine wa_ishl E d_X11_doorsKnownBy_41 ?_
      refine wa_ior E d_X11_doorsKnownBy_42 ?_
      obtain ⟨v2_5, ev2_5, h⟩ := kf_lte h
      refine wa_topi ev2_5 ?_
      refine wa_istore_n (lv' := [(2, .int v2_5), (0, .ref (kf_ad G v0)), (1, .int v1), (3, .int v3)]) rfl (by decide) rfl E d_X11_doorsKnownBy_43 ?_
      refine wa_sub [1, 2, 0, 3] rfl ?_
      exact b_X11_doorsKnownBy_44 E hty hrec4 v0 v1 v2_5 v3 k_v0 q_3.2 h
theorem b_X11_doorsKnownBy_4 {X : kf_X} {G : kf_G} {q : (Int32 × kf_St)} (E : kf_ok X G cX11_doorsKnownBy RX11 4 (some .int) (4)) (hty : kf_wt G) : ∀ (N : Nat) (v0 : Nat) (v1 : Int32) (v2 : Int32) (v3 : Int32) (k_v0 : kf_kd G v0 = 12) (σ : kf_St) (_ : f_X11_doorsKnownBy_4 N v0 v1 v2 v3 σ = some q), kf_WA X G 4 (kf_Q X G (some (.int q.1)) q.2) 4 [(0, .ref (kf_ad G v0)), (1, .int v1), (2, .int v2), (3, .int v3)] [] σ
  | 0, _, _, _, _, _, _, h => by cases h
  | N + 1, v0, v1, v2, v3, k_v0, σ, h => b_X11_doorsKnownBy_4_s _ E hty (b_X11_doorsKnownBy_4 E hty N) v0 v1 v2 v3 k_v0 σ h
def f_X11_doorsKnownBy (v0 : Nat) (v1 : Int32) (σ : kf_St) : Option (Int32 × kf_St) :=
  f_X11_doorsKnownBy_4 kf_F v0 v1 0 0 σ
set_option maxRecDepth 100000 in
set_option maxHeartbeats 4000000 in
theorem c_X11_doorsKnownBy {G : kf_G} (hty : kf_wt G) (v0 : Nat) (v1 : Int32) (k_v0 : kf_kd G v0 = 12) (σ : kf_St) {q : (Int32 × kf_St)} (h : f_X11_doorsKnownBy v0 v1 σ = some q) : kf_Ct (4) yX11_doorsKnownBy cX11_doorsKnownBy 4 (some .int) G [.ref (kf_ad G v0), .int v1] σ (some (.int q.1)) q.2 := by
  refine kf_Ct.of hty.1 (lv := [(0, .ref (kf_ad G v0)), (1, .int v1)]) (by decide +kernel) rfl (Nat.le_of_ble_eq_true rfl) (fun X E => ?_)
  unfold f_X11_doorsKnownBy at h
  refine wa_iconst 0 ic_0 E d_X11_doorsKnownBy_0 ?_
  refine wa_istore_n (lv' := [(2, .int 0), (0, .ref (kf_ad G v0)), (1, .int v1)]) rfl (by decide) rfl E d_X11_doorsKnownBy_1 ?_
  refine wa_iconst 0 ic_0 E d_X11_doorsKnownBy_2 ?_
  refine wa_istore_n (lv' := [(3, .int 0), (2, .int 0), (0, .ref (kf_ad G v0)), (1, .int v1)]) rfl (by decide) rfl E d_X11_doorsKnownBy_3 ?_
  refine wa_sub [2, 3, 1, 0] rfl ?_
  exact b_X11_doorsKnownBy_4 E hty kf_F v0 v1 0 0 k_v0 σ h
/-! X11_caller -/
theorem d_X11_caller_0 : kf_dq cX11_caller 0 1 1 (.aload_n 0) := ⟨by decide +kernel, rfl⟩
theorem d_X11_caller_1 : kf_dq cX11_caller 1 4 3 (.getfield 19) := ⟨by decide +kernel, rfl⟩
theorem d_X11_caller_4 : kf_dq cX11_caller 4 5 1 (.iload_n 1) := ⟨by decide +kernel, rfl⟩
theorem d_X11_caller_5 : kf_dq cX11_caller 5 8 3 (.invokevirtual 149) := ⟨by decide +kernel, rfl⟩
theorem d_X11_caller_8 : kf_dj cX11_caller 8 11 13 (.ifCond .ne) := ⟨5, by decide +kernel, rfl, by decide⟩
theorem d_X11_caller_11 : kf_dq cX11_caller 11 12 1 (.iconst (-1)) := ⟨by decide +kernel, rfl⟩
theorem d_X11_caller_12 : kf_dq cX11_caller 12 13 1 (.ireturn) := ⟨by decide +kernel, rfl⟩
theorem d_X11_caller_13 : kf_dq cX11_caller 13 14 1 (.iload_n 2) := ⟨by decide +kernel, rfl⟩
theorem d_X11_caller_14 : kf_dj cX11_caller 14 17 36 (.ifCond .lt) := ⟨22, by decide +kernel, rfl, by decide⟩
theorem d_X11_caller_17 : kf_dq cX11_caller 17 18 1 (.iload_n 2) := ⟨by decide +kernel, rfl⟩
theorem d_X11_caller_18 : kf_dq cX11_caller 18 19 1 (.iconst 4) := ⟨by decide +kernel, rfl⟩
theorem d_X11_caller_19 : kf_dj cX11_caller 19 22 36 (.if_icmp .ge) := ⟨17, by decide +kernel, rfl, by decide⟩
theorem d_X11_caller_22 : kf_dq cX11_caller 22 23 1 (.aload_n 0) := ⟨by decide +kernel, rfl⟩
theorem d_X11_caller_23 : kf_dq cX11_caller 23 26 3 (.getfield 19) := ⟨by decide +kernel, rfl⟩
theorem d_X11_caller_26 : kf_dq cX11_caller 26 29 3 (.getfield 152) := ⟨by decide +kernel, rfl⟩
theorem d_X11_caller_29 : kf_dq cX11_caller 29 30 1 (.iconst 4) := ⟨by decide +kernel, rfl⟩
theorem d_X11_caller_30 : kf_dq cX11_caller 30 31 1 (.iload_n 1) := ⟨by decide +kernel, rfl⟩
theorem d_X11_caller_31 : kf_dq cX11_caller 31 32 1 (.imul) := ⟨by decide +kernel, rfl⟩
theorem d_X11_caller_32 : kf_dq cX11_caller 32 33 1 (.iload_n 2) := ⟨by decide +kernel, rfl⟩
theorem d_X11_caller_33 : kf_dq cX11_caller 33 34 1 (.iadd) := ⟨by decide +kernel, rfl⟩
theorem d_X11_caller_34 : kf_dq cX11_caller 34 35 1 (.iaload) := ⟨by decide +kernel, rfl⟩
theorem d_X11_caller_35 : kf_dq cX11_caller 35 36 1 (.ireturn) := ⟨by decide +kernel, rfl⟩
theorem d_X11_caller_36 : kf_dq cX11_caller 36 37 1 (.iload_n 2) := ⟨by decide +kernel, rfl⟩
theorem d_X11_caller_37 : kf_dq cX11_caller 37 38 1 (.iconst 4) := ⟨by decide +kernel, rfl⟩
theorem d_X11_caller_38 : kf_dj cX11_caller 38 41 51 (.if_icmp .ne) := ⟨13, by decide +kernel, rfl, by decide⟩
theorem d_X11_caller_41 : kf_dq cX11_caller 41 42 1 (.aload_n 0) := ⟨by decide +kernel, rfl⟩
theorem d_X11_caller_42 : kf_dq cX11_caller 42 45 3 (.getfield 38) := ⟨by decide +kernel, rfl⟩
theorem d_X11_caller_45 : kf_dq cX11_caller 45 48 3 (.getfield 155) := ⟨by decide +kernel, rfl⟩
theorem d_X11_caller_48 : kf_dq cX11_caller 48 49 1 (.iload_n 1) := ⟨by decide +kernel, rfl⟩
theorem d_X11_caller_49 : kf_dq cX11_caller 49 50 1 (.iaload) := ⟨by decide +kernel, rfl⟩
theorem d_X11_caller_50 : kf_dq cX11_caller 50 51 1 (.ireturn) := ⟨by decide +kernel, rfl⟩
theorem d_X11_caller_51 : kf_dq cX11_caller 51 52 1 (.iload_n 2) := ⟨by decide +kernel, rfl⟩
theorem d_X11_caller_52 : kf_dq cX11_caller 52 53 1 (.iconst 5) := ⟨by decide +kernel, rfl⟩
theorem d_X11_caller_53 : kf_dj cX11_caller 53 56 64 (.if_icmp .ne) := ⟨11, by decide +kernel, rfl, by decide⟩
theorem d_X11_caller_56 : kf_dq cX11_caller 56 57 1 (.aload_n 0) := ⟨by decide +kernel, rfl⟩
theorem d_X11_caller_57 : kf_dq cX11_caller 57 58 1 (.iload_n 1) := ⟨by decide +kernel, rfl⟩
theorem d_X11_caller_58 : kf_dq cX11_caller 58 61 3 (.invokevirtual 158) := ⟨by decide +kernel, rfl⟩
theorem d_X11_caller_61 : kf_dj cX11_caller 61 64 65 .goto := ⟨4, by decide +kernel, rfl, by decide⟩
theorem d_X11_caller_64 : kf_dq cX11_caller 64 65 1 (.iconst (-1)) := ⟨by decide +kernel, rfl⟩
theorem d_X11_caller_65 : kf_dq cX11_caller 65 66 1 (.ireturn) := ⟨by decide +kernel, rfl⟩
def f_X11_caller_36 (v0 : Nat) (v1 : Int32) (v2 : Int32) (σ : kf_St) : Option (Int32 × kf_St) :=
  if v2 = 4 then
    if kf_ix v1 (kf_ln (kf_rf (kf_rf v0 4) 1)) = true then
    some ((σ.1 (kf_rf (kf_rf v0 4) 1) (Int32.toNatClampNeg v1)), σ)
    else none
  else
    if v2 = 5 then
      (f_X11_doorsKnownBy v0 v1 σ).bind fun q_3 =>
      some (q_3.1, q_3.2)
    else
      some ((-1), σ)
set_option maxRecDepth 100000 in
set_option maxHeartbeats 4000000 in
theorem b_X11_caller_36 {X : kf_X} {G : kf_G} {q : (Int32 × kf_St)} (E : kf_ok X G cX11_caller RX11 3 (some .int) (5)) (hty : kf_wt G) (v0 : Nat) (v1 : Int32) (v2 : Int32) (k_v0 : kf_kd G v0 = 12) (σ : kf_St) (h : f_X11_caller_36 v0 v1 v2 σ = some q) : kf_WA X G 3 (kf_Q X G (some (.int q.1)) q.2) 36 [(0, .ref (kf_ad G v0)), (1, .int v1), (2, .int v2)] [] σ := by
  unfold f_X11_caller_36 at h
  refine wa_iload_n 2 rfl E d_X11_caller_36 ?_
  refine wa_iconst 4 ic_4 E d_X11_caller_37 ?_
  refine wa_icmp_ne E d_X11_caller_38 (fun c_1 => ?_) (fun c_1 => ?_)
  · replace h := kf_iff c_1 h
    refine wa_iload_n 2 rfl E d_X11_caller_51 ?_
    refine wa_iconst 5 ic_5 E d_X11_caller_52 ?_
    refine wa_icmp_ne E d_X11_caller_53 (fun c_2 => ?_) (fun c_2 => ?_)
    · replace h := kf_iff c_2 h
      refine wa_iconst (-1) ic_m1 E d_X11_caller_64 ?_
      cases h
      exact wa_iret E d_X11_caller_65
    · replace h := kf_ift c_2 h
      refine wa_aload_n 0 rfl E d_X11_caller_56 ?_
      refine wa_iload_n 1 rfl E d_X11_caller_57 ?_
      obtain ⟨q_3, hq_3, h⟩ := kf_bd h
      refine wa_callV (st2 := [.int q_3.1]) (c_X11_doorsKnownBy hty v0 v1 k_v0 σ hq_3) mv_X11_doorsKnownBy ml_X11_158 k_v0 rfl (Nat.le_of_ble_eq_true rfl) rfl (Nat.le_of_ble_eq_true rfl) E d_X11_caller_58 rfl ?_
      refine wa_goto E d_X11_caller_61 ?_
      cases h
      exact wa_iret E d_X11_caller_65
  · replace h := kf_ift c_1 h
    refine wa_aload_n 0 rfl E d_X11_caller_41 ?_
    refine wa_getR fl_X11_38 k_v0 rfl E d_X11_caller_42 ?_
    refine wa_getR fl_X11_155 (kf_wtf hty 4 7 k_v0 (by decide) rfl) rfl E d_X11_caller_45 ?_
    refine wa_iload_n 1 rfl E d_X11_caller_48 ?_
    obtain ⟨g_4, h⟩ := kf_gd h
    refine wa_iald (kf_wtf hty 1 49 (kf_wtf hty 4 7 k_v0 (by decide) rfl) (by decide) rfl) g_4 E d_X11_caller_49 ?_
    cases h
    exact wa_iret E d_X11_caller_50
def f_X11_caller (v0 : Nat) (v1 : Int32) (v2 : Int32) (σ : kf_St) : Option (Int32 × kf_St) :=
  (f_X10_hasCaller (kf_rf v0 1) v1 σ).bind fun q_1 =>
  if q_1.1 = 0 then
    some ((-1), q_1.2)
  else
    if v2 < 0 then
      f_X11_caller_36 v0 v1 v2 q_1.2
    else
      if 4 ≤ v2 then
        f_X11_caller_36 v0 v1 v2 q_1.2
      else
        if kf_ix ((4 * v1) + v2) (kf_ln (kf_rf (kf_rf v0 1) 9)) = true then
        some ((q_1.2.1 (kf_rf (kf_rf v0 1) 9) (Int32.toNatClampNeg ((4 * v1) + v2))), q_1.2)
        else none
set_option maxRecDepth 100000 in
set_option maxHeartbeats 4000000 in
theorem c_X11_caller {G : kf_G} (hty : kf_wt G) (v0 : Nat) (v1 : Int32) (v2 : Int32) (k_v0 : kf_kd G v0 = 12) (σ : kf_St) {q : (Int32 × kf_St)} (h : f_X11_caller v0 v1 v2 σ = some q) : kf_Ct (5) yX11_caller cX11_caller 3 (some .int) G [.ref (kf_ad G v0), .int v1, .int v2] σ (some (.int q.1)) q.2 := by
  refine kf_Ct.of hty.1 (lv := [(0, .ref (kf_ad G v0)), (1, .int v1), (2, .int v2)]) (by decide +kernel) rfl (Nat.le_of_ble_eq_true rfl) (fun X E => ?_)
  unfold f_X11_caller at h
  refine wa_aload_n 0 rfl E d_X11_caller_0 ?_
  refine wa_getR fl_X11_19 k_v0 rfl E d_X11_caller_1 ?_
  refine wa_iload_n 1 rfl E d_X11_caller_4 ?_
  obtain ⟨q_1, hq_1, h⟩ := kf_bd h
  refine wa_callV (st2 := [.int q_1.1]) (c_X10_hasCaller hty (kf_rf v0 1) v1 (kf_wtf hty 1 10 k_v0 (by decide) rfl) σ hq_1) mv_X10_hasCaller ml_X11_149 (kf_wtf hty 1 10 k_v0 (by decide) rfl) rfl (Nat.le_of_ble_eq_true rfl) rfl (Nat.le_of_ble_eq_true rfl) E d_X11_caller_5 rfl ?_
  refine wa_if_ne E d_X11_caller_8 (fun c_2 => ?_) (fun c_2 => ?_)
  · replace h := kf_iff c_2 h
    refine wa_iload_n 2 rfl E d_X11_caller_13 ?_
    refine wa_if_lt E d_X11_caller_14 (fun c_3 => ?_) (fun c_3 => ?_)
    · replace h := kf_ift c_3 h
      exact b_X11_caller_36 E hty v0 v1 v2 k_v0 q_1.2 h
    · replace h := kf_iff c_3 h
      refine wa_iload_n 2 rfl E d_X11_caller_17 ?_
      refine wa_iconst 4 ic_4 E d_X11_caller_18 ?_
      refine wa_icmp_ge E d_X11_caller_19 (fun c_4 => ?_) (fun c_4 => ?_)
      · replace h := kf_ift c_4 h
        exact b_X11_caller_36 E hty v0 v1 v2 k_v0 q_1.2 h
      · replace h := kf_iff c_4 h
        refine wa_aload_n 0 rfl E d_X11_caller_22 ?_
        refine wa_getR fl_X11_19 k_v0 rfl E d_X11_caller_23 ?_
        refine wa_getR fl_X11_152 (kf_wtf hty 1 10 k_v0 (by decide) rfl) rfl E d_X11_caller_26 ?_
        refine wa_iconst 4 ic_4 E d_X11_caller_29 ?_
        refine wa_iload_n 1 rfl E d_X11_caller_30 ?_
        refine wa_imul E d_X11_caller_31 ?_
        refine wa_iload_n 2 rfl E d_X11_caller_32 ?_
        refine wa_iadd E d_X11_caller_33 ?_
        obtain ⟨g_5, h⟩ := kf_gd h
        refine wa_iald (kf_wtf hty 9 49 (kf_wtf hty 1 10 k_v0 (by decide) rfl) (by decide) rfl) g_5 E d_X11_caller_34 ?_
        cases h
        exact wa_iret E d_X11_caller_35
  · replace h := kf_ift c_2 h
    refine wa_iconst (-1) ic_m1 E d_X11_caller_11 ?_
    cases h
    exact wa_iret E d_X11_caller_12
/-! X11_round -/
theorem d_X11_round_0 : kf_dq cX11_round 0 1 1 (.aload_n 0) := ⟨by decide +kernel, rfl⟩
theorem d_X11_round_1 : kf_dq cX11_round 1 4 3 (.getfield 19) := ⟨by decide +kernel, rfl⟩
theorem d_X11_round_4 : kf_dq cX11_round 4 5 1 (.iload_n 1) := ⟨by decide +kernel, rfl⟩
theorem d_X11_round_5 : kf_dq cX11_round 5 8 3 (.invokevirtual 162) := ⟨by decide +kernel, rfl⟩
theorem d_X11_round_8 : kf_dj cX11_round 8 11 13 (.ifCond .ne) := ⟨5, by decide +kernel, rfl, by decide⟩
theorem d_X11_round_11 : kf_dq cX11_round 11 12 1 (.iconst (-1)) := ⟨by decide +kernel, rfl⟩
theorem d_X11_round_12 : kf_dq cX11_round 12 13 1 (.ireturn) := ⟨by decide +kernel, rfl⟩
theorem d_X11_round_13 : kf_dq cX11_round 13 14 1 (.iload_n 2) := ⟨by decide +kernel, rfl⟩
theorem d_X11_round_14 : decode cX11_round 14 = .ok (.tableswitch 114 0 5 #[38, 48, 58, 68, 78, 90], 38) := by decide +kernel
theorem d_X11_round_52 : kf_dq cX11_round 52 53 1 (.aload_n 0) := ⟨by decide +kernel, rfl⟩
theorem d_X11_round_53 : kf_dq cX11_round 53 56 3 (.getfield 19) := ⟨by decide +kernel, rfl⟩
theorem d_X11_round_56 : kf_dq cX11_round 56 59 3 (.getfield 165) := ⟨by decide +kernel, rfl⟩
theorem d_X11_round_59 : kf_dq cX11_round 59 60 1 (.iload_n 1) := ⟨by decide +kernel, rfl⟩
theorem d_X11_round_60 : kf_dq cX11_round 60 61 1 (.iaload) := ⟨by decide +kernel, rfl⟩
theorem d_X11_round_61 : kf_dq cX11_round 61 62 1 (.ireturn) := ⟨by decide +kernel, rfl⟩
theorem d_X11_round_62 : kf_dq cX11_round 62 63 1 (.aload_n 0) := ⟨by decide +kernel, rfl⟩
theorem d_X11_round_63 : kf_dq cX11_round 63 66 3 (.getfield 19) := ⟨by decide +kernel, rfl⟩
theorem d_X11_round_66 : kf_dq cX11_round 66 69 3 (.getfield 168) := ⟨by decide +kernel, rfl⟩
theorem d_X11_round_69 : kf_dq cX11_round 69 70 1 (.iload_n 1) := ⟨by decide +kernel, rfl⟩
theorem d_X11_round_70 : kf_dq cX11_round 70 71 1 (.iaload) := ⟨by decide +kernel, rfl⟩
theorem d_X11_round_71 : kf_dq cX11_round 71 72 1 (.ireturn) := ⟨by decide +kernel, rfl⟩
theorem d_X11_round_72 : kf_dq cX11_round 72 73 1 (.aload_n 0) := ⟨by decide +kernel, rfl⟩
theorem d_X11_round_73 : kf_dq cX11_round 73 76 3 (.getfield 19) := ⟨by decide +kernel, rfl⟩
theorem d_X11_round_76 : kf_dq cX11_round 76 79 3 (.getfield 171) := ⟨by decide +kernel, rfl⟩
theorem d_X11_round_79 : kf_dq cX11_round 79 80 1 (.iload_n 1) := ⟨by decide +kernel, rfl⟩
theorem d_X11_round_80 : kf_dq cX11_round 80 81 1 (.iaload) := ⟨by decide +kernel, rfl⟩
theorem d_X11_round_81 : kf_dq cX11_round 81 82 1 (.ireturn) := ⟨by decide +kernel, rfl⟩
theorem d_X11_round_82 : kf_dq cX11_round 82 83 1 (.aload_n 0) := ⟨by decide +kernel, rfl⟩
theorem d_X11_round_83 : kf_dq cX11_round 83 86 3 (.getfield 19) := ⟨by decide +kernel, rfl⟩
theorem d_X11_round_86 : kf_dq cX11_round 86 89 3 (.getfield 174) := ⟨by decide +kernel, rfl⟩
theorem d_X11_round_89 : kf_dq cX11_round 89 90 1 (.iload_n 1) := ⟨by decide +kernel, rfl⟩
theorem d_X11_round_90 : kf_dq cX11_round 90 91 1 (.iaload) := ⟨by decide +kernel, rfl⟩
theorem d_X11_round_91 : kf_dq cX11_round 91 92 1 (.ireturn) := ⟨by decide +kernel, rfl⟩
theorem d_X11_round_92 : kf_dq cX11_round 92 93 1 (.aload_n 0) := ⟨by decide +kernel, rfl⟩
theorem d_X11_round_93 : kf_dq cX11_round 93 96 3 (.getfield 38) := ⟨by decide +kernel, rfl⟩
theorem d_X11_round_96 : kf_dq cX11_round 96 99 3 (.getfield 177) := ⟨by decide +kernel, rfl⟩
theorem d_X11_round_99 : kf_dq cX11_round 99 100 1 (.iload_n 1) := ⟨by decide +kernel, rfl⟩
theorem d_X11_round_100 : kf_dq cX11_round 100 101 1 (.ishr) := ⟨by decide +kernel, rfl⟩
theorem d_X11_round_101 : kf_dq cX11_round 101 102 1 (.iconst 1) := ⟨by decide +kernel, rfl⟩
theorem d_X11_round_102 : kf_dq cX11_round 102 103 1 (.iand) := ⟨by decide +kernel, rfl⟩
theorem d_X11_round_103 : kf_dq cX11_round 103 104 1 (.ireturn) := ⟨by decide +kernel, rfl⟩
theorem d_X11_round_104 : kf_dq cX11_round 104 105 1 (.aload_n 0) := ⟨by decide +kernel, rfl⟩
theorem d_X11_round_105 : kf_dq cX11_round 105 108 3 (.getfield 19) := ⟨by decide +kernel, rfl⟩
theorem d_X11_round_108 : kf_dq cX11_round 108 109 1 (.iload_n 1) := ⟨by decide +kernel, rfl⟩
theorem d_X11_round_109 : kf_dq cX11_round 109 110 1 (.aload_n 0) := ⟨by decide +kernel, rfl⟩
theorem d_X11_round_110 : kf_dq cX11_round 110 113 3 (.getfield 38) := ⟨by decide +kernel, rfl⟩
theorem d_X11_round_113 : kf_dq cX11_round 113 116 3 (.getfield 180) := ⟨by decide +kernel, rfl⟩
theorem d_X11_round_116 : kf_dq cX11_round 116 119 3 (.invokevirtual 183) := ⟨by decide +kernel, rfl⟩
theorem d_X11_round_119 : kf_dj cX11_round 119 122 126 (.ifCond .eq) := ⟨7, by decide +kernel, rfl, by decide⟩
theorem d_X11_round_122 : kf_dq cX11_round 122 123 1 (.iconst 1) := ⟨by decide +kernel, rfl⟩
theorem d_X11_round_123 : kf_dj cX11_round 123 126 127 .goto := ⟨4, by decide +kernel, rfl, by decide⟩
theorem d_X11_round_126 : kf_dq cX11_round 126 127 1 (.iconst 0) := ⟨by decide +kernel, rfl⟩
theorem d_X11_round_127 : kf_dq cX11_round 127 128 1 (.ireturn) := ⟨by decide +kernel, rfl⟩
theorem d_X11_round_128 : kf_dq cX11_round 128 129 1 (.iconst (-1)) := ⟨by decide +kernel, rfl⟩
theorem d_X11_round_129 : kf_dq cX11_round 129 130 1 (.ireturn) := ⟨by decide +kernel, rfl⟩
def f_X11_round (v0 : Nat) (v1 : Int32) (v2 : Int32) (σ : kf_St) : Option (Int32 × kf_St) :=
  (f_X10_hasRound (kf_rf v0 1) v1 σ).bind fun q_1 =>
  if q_1.1 = 0 then
    some ((-1), q_1.2)
  else
    if v2 = 0 then
      if kf_ix v1 (kf_ln (kf_rf (kf_rf v0 1) 10)) = true then
      some ((q_1.2.1 (kf_rf (kf_rf v0 1) 10) (Int32.toNatClampNeg v1)), q_1.2)
      else none
    else
      if v2 = 1 then
        if kf_ix v1 (kf_ln (kf_rf (kf_rf v0 1) 11)) = true then
        some ((q_1.2.1 (kf_rf (kf_rf v0 1) 11) (Int32.toNatClampNeg v1)), q_1.2)
        else none
      else
        if v2 = 2 then
          if kf_ix v1 (kf_ln (kf_rf (kf_rf v0 1) 12)) = true then
          some ((q_1.2.1 (kf_rf (kf_rf v0 1) 12) (Int32.toNatClampNeg v1)), q_1.2)
          else none
        else
          if v2 = 3 then
            if kf_ix v1 (kf_ln (kf_rf (kf_rf v0 1) 13)) = true then
            some ((q_1.2.1 (kf_rf (kf_rf v0 1) 13) (Int32.toNatClampNeg v1)), q_1.2)
            else none
          else
            if v2 = 4 then
              some ((((q_1.2.1 (kf_rf v0 4) 2) >>> (v1 &&& 31)) &&& 1), q_1.2)
            else
              if v2 = 5 then
                (f_X10_isDue (kf_rf v0 1) v1 (q_1.2.1 (kf_rf v0 4) 3) q_1.2).bind fun q_13 =>
                if q_13.1 = 0 then
                  some (0, q_13.2)
                else
                  some (1, q_13.2)
              else
                some ((-1), q_1.2)
set_option maxRecDepth 100000 in
set_option maxHeartbeats 4000000 in
theorem c_X11_round {G : kf_G} (hty : kf_wt G) (v0 : Nat) (v1 : Int32) (v2 : Int32) (k_v0 : kf_kd G v0 = 12) (σ : kf_St) {q : (Int32 × kf_St)} (h : f_X11_round v0 v1 v2 σ = some q) : kf_Ct (2) yX11_round cX11_round 3 (some .int) G [.ref (kf_ad G v0), .int v1, .int v2] σ (some (.int q.1)) q.2 := by
  refine kf_Ct.of hty.1 (lv := [(0, .ref (kf_ad G v0)), (1, .int v1), (2, .int v2)]) (by decide +kernel) rfl (Nat.le_of_ble_eq_true rfl) (fun X E => ?_)
  unfold f_X11_round at h
  refine wa_aload_n 0 rfl E d_X11_round_0 ?_
  refine wa_getR fl_X11_19 k_v0 rfl E d_X11_round_1 ?_
  refine wa_iload_n 1 rfl E d_X11_round_4 ?_
  obtain ⟨q_1, hq_1, h⟩ := kf_bd h
  refine wa_callV (st2 := [.int q_1.1]) (c_X10_hasRound hty (kf_rf v0 1) v1 (kf_wtf hty 1 10 k_v0 (by decide) rfl) σ hq_1) mv_X10_hasRound ml_X11_162 (kf_wtf hty 1 10 k_v0 (by decide) rfl) rfl (Nat.le_of_ble_eq_true rfl) rfl (Nat.le_of_ble_eq_true rfl) E d_X11_round_5 rfl ?_
  refine wa_if_ne E d_X11_round_8 (fun c_2 => ?_) (fun c_2 => ?_)
  · replace h := kf_iff c_2 h
    refine wa_iload_n 2 rfl E d_X11_round_13 ?_
    by_cases c_3 : v2 = 0
    · replace h := kf_ift c_3 h
      refine wa_tabIn (off := 38) (tgt := 52) (by rw [c_3]; decide) (by rw [c_3]; decide) (by rw [c_3]; rfl) (by decide) E d_X11_round_14 ?_
      refine wa_aload_n 0 rfl E d_X11_round_52 ?_
      refine wa_getR fl_X11_19 k_v0 rfl E d_X11_round_53 ?_
      refine wa_getR fl_X11_165 (kf_wtf hty 1 10 k_v0 (by decide) rfl) rfl E d_X11_round_56 ?_
      refine wa_iload_n 1 rfl E d_X11_round_59 ?_
      obtain ⟨g_4, h⟩ := kf_gd h
      refine wa_iald (kf_wtf hty 10 49 (kf_wtf hty 1 10 k_v0 (by decide) rfl) (by decide) rfl) g_4 E d_X11_round_60 ?_
      cases h
      exact wa_iret E d_X11_round_61
    · replace h := kf_iff c_3 h
      by_cases c_5 : v2 = 1
      · replace h := kf_ift c_5 h
        refine wa_tabIn (off := 48) (tgt := 62) (by rw [c_5]; decide) (by rw [c_5]; decide) (by rw [c_5]; rfl) (by decide) E d_X11_round_14 ?_
        refine wa_aload_n 0 rfl E d_X11_round_62 ?_
        refine wa_getR fl_X11_19 k_v0 rfl E d_X11_round_63 ?_
        refine wa_getR fl_X11_168 (kf_wtf hty 1 10 k_v0 (by decide) rfl) rfl E d_X11_round_66 ?_
        refine wa_iload_n 1 rfl E d_X11_round_69 ?_
        obtain ⟨g_6, h⟩ := kf_gd h
        refine wa_iald (kf_wtf hty 11 49 (kf_wtf hty 1 10 k_v0 (by decide) rfl) (by decide) rfl) g_6 E d_X11_round_70 ?_
        cases h
        exact wa_iret E d_X11_round_71
      · replace h := kf_iff c_5 h
        by_cases c_7 : v2 = 2
        · replace h := kf_ift c_7 h
          refine wa_tabIn (off := 58) (tgt := 72) (by rw [c_7]; decide) (by rw [c_7]; decide) (by rw [c_7]; rfl) (by decide) E d_X11_round_14 ?_
          refine wa_aload_n 0 rfl E d_X11_round_72 ?_
          refine wa_getR fl_X11_19 k_v0 rfl E d_X11_round_73 ?_
          refine wa_getR fl_X11_171 (kf_wtf hty 1 10 k_v0 (by decide) rfl) rfl E d_X11_round_76 ?_
          refine wa_iload_n 1 rfl E d_X11_round_79 ?_
          obtain ⟨g_8, h⟩ := kf_gd h
          refine wa_iald (kf_wtf hty 12 49 (kf_wtf hty 1 10 k_v0 (by decide) rfl) (by decide) rfl) g_8 E d_X11_round_80 ?_
          cases h
          exact wa_iret E d_X11_round_81
        · replace h := kf_iff c_7 h
          by_cases c_9 : v2 = 3
          · replace h := kf_ift c_9 h
            refine wa_tabIn (off := 68) (tgt := 82) (by rw [c_9]; decide) (by rw [c_9]; decide) (by rw [c_9]; rfl) (by decide) E d_X11_round_14 ?_
            refine wa_aload_n 0 rfl E d_X11_round_82 ?_
            refine wa_getR fl_X11_19 k_v0 rfl E d_X11_round_83 ?_
            refine wa_getR fl_X11_174 (kf_wtf hty 1 10 k_v0 (by decide) rfl) rfl E d_X11_round_86 ?_
            refine wa_iload_n 1 rfl E d_X11_round_89 ?_
            obtain ⟨g_10, h⟩ := kf_gd h
            refine wa_iald (kf_wtf hty 13 49 (kf_wtf hty 1 10 k_v0 (by decide) rfl) (by decide) rfl) g_10 E d_X11_round_90 ?_
            cases h
            exact wa_iret E d_X11_round_91
          · replace h := kf_iff c_9 h
            by_cases c_11 : v2 = 4
            · replace h := kf_ift c_11 h
              refine wa_tabIn (off := 78) (tgt := 92) (by rw [c_11]; decide) (by rw [c_11]; decide) (by rw [c_11]; rfl) (by decide) E d_X11_round_14 ?_
              refine wa_aload_n 0 rfl E d_X11_round_92 ?_
              refine wa_getR fl_X11_38 k_v0 rfl E d_X11_round_93 ?_
              refine wa_getI fl_X11_177 (kf_wtf hty 4 7 k_v0 (by decide) rfl) rfl E d_X11_round_96 ?_
              refine wa_iload_n 1 rfl E d_X11_round_99 ?_
              refine wa_ishr E d_X11_round_100 ?_
              refine wa_iconst 1 ic_1 E d_X11_round_101 ?_
              refine wa_iand E d_X11_round_102 ?_
              cases h
              exact wa_iret E d_X11_round_103
            · replace h := kf_iff c_11 h
              by_cases c_12 : v2 = 5
              · replace h := kf_ift c_12 h
                refine wa_tabIn (off := 90) (tgt := 104) (by rw [c_12]; decide) (by rw [c_12]; decide) (by rw [c_12]; rfl) (by decide) E d_X11_round_14 ?_
                refine wa_aload_n 0 rfl E d_X11_round_104 ?_
                refine wa_getR fl_X11_19 k_v0 rfl E d_X11_round_105 ?_
                refine wa_iload_n 1 rfl E d_X11_round_108 ?_
                refine wa_aload_n 0 rfl E d_X11_round_109 ?_
                refine wa_getR fl_X11_38 k_v0 rfl E d_X11_round_110 ?_
                refine wa_getI fl_X11_180 (kf_wtf hty 4 7 k_v0 (by decide) rfl) rfl E d_X11_round_113 ?_
                obtain ⟨q_13, hq_13, h⟩ := kf_bd h
                refine wa_callV (st2 := [.int q_13.1]) (c_X10_isDue hty (kf_rf v0 1) v1 (q_1.2.1 (kf_rf v0 4) 3) (kf_wtf hty 1 10 k_v0 (by decide) rfl) q_1.2 hq_13) mv_X10_isDue ml_X11_183 (kf_wtf hty 1 10 k_v0 (by decide) rfl) rfl (Nat.le_of_ble_eq_true rfl) rfl (Nat.le_of_ble_eq_true rfl) E d_X11_round_116 rfl ?_
                refine wa_if_eq E d_X11_round_119 (fun c_14 => ?_) (fun c_14 => ?_)
                · replace h := kf_ift c_14 h
                  refine wa_iconst 0 ic_0 E d_X11_round_126 ?_
                  cases h
                  exact wa_iret E d_X11_round_127
                · replace h := kf_iff c_14 h
                  refine wa_iconst 1 ic_1 E d_X11_round_122 ?_
                  refine wa_goto E d_X11_round_123 ?_
                  cases h
                  exact wa_iret E d_X11_round_127
              · replace h := kf_iff c_12 h
                refine wa_tabOut (tgt := 128) (kf_out [0, 1, 2, 3, 4, 5] (by decide +kernel) (List.forall_mem_cons.mpr ⟨c_3, List.forall_mem_cons.mpr ⟨c_5, List.forall_mem_cons.mpr ⟨c_7, List.forall_mem_cons.mpr ⟨c_9, List.forall_mem_cons.mpr ⟨c_11, List.forall_mem_cons.mpr ⟨c_12, fun _ h => absurd h List.not_mem_nil⟩⟩⟩⟩⟩⟩)) (by decide) E d_X11_round_14 ?_
                refine wa_iconst (-1) ic_m1 E d_X11_round_128 ?_
                cases h
                exact wa_iret E d_X11_round_129
  · replace h := kf_ift c_2 h
    refine wa_iconst (-1) ic_m1 E d_X11_round_11 ?_
    cases h
    exact wa_iret E d_X11_round_12
/-! X11_unlike -/
theorem d_X11_unlike_0 : kf_dq cX11_unlike 0 1 1 (.aload_n 0) := ⟨by decide +kernel, rfl⟩
theorem d_X11_unlike_1 : kf_dq cX11_unlike 1 4 3 (.getfield 19) := ⟨by decide +kernel, rfl⟩
theorem d_X11_unlike_4 : kf_dq cX11_unlike 4 5 1 (.iload_n 1) := ⟨by decide +kernel, rfl⟩
theorem d_X11_unlike_5 : kf_dq cX11_unlike 5 6 1 (.iload_n 2) := ⟨by decide +kernel, rfl⟩
theorem d_X11_unlike_6 : kf_dq cX11_unlike 6 9 3 (.invokevirtual 187) := ⟨by decide +kernel, rfl⟩
theorem d_X11_unlike_9 : kf_dj cX11_unlike 9 12 14 (.ifCond .ne) := ⟨5, by decide +kernel, rfl, by decide⟩
theorem d_X11_unlike_12 : kf_dq cX11_unlike 12 13 1 (.iconst (-1)) := ⟨by decide +kernel, rfl⟩
theorem d_X11_unlike_13 : kf_dq cX11_unlike 13 14 1 (.ireturn) := ⟨by decide +kernel, rfl⟩
theorem d_X11_unlike_14 : kf_dq cX11_unlike 14 15 1 (.aload_n 0) := ⟨by decide +kernel, rfl⟩
theorem d_X11_unlike_15 : kf_dq cX11_unlike 15 18 3 (.getfield 19) := ⟨by decide +kernel, rfl⟩
theorem d_X11_unlike_18 : kf_dq cX11_unlike 18 19 1 (.aload_n 0) := ⟨by decide +kernel, rfl⟩
theorem d_X11_unlike_19 : kf_dq cX11_unlike 19 22 3 (.getfield 38) := ⟨by decide +kernel, rfl⟩
theorem d_X11_unlike_22 : kf_dq cX11_unlike 22 25 3 (.getfield 119) := ⟨by decide +kernel, rfl⟩
theorem d_X11_unlike_25 : kf_dq cX11_unlike 25 26 1 (.iload_n 1) := ⟨by decide +kernel, rfl⟩
theorem d_X11_unlike_26 : kf_dq cX11_unlike 26 27 1 (.aaload) := ⟨by decide +kernel, rfl⟩
theorem d_X11_unlike_27 : kf_dq cX11_unlike 27 30 3 (.getfield 123) := ⟨by decide +kernel, rfl⟩
theorem d_X11_unlike_30 : kf_dq cX11_unlike 30 31 1 (.iload_n 2) := ⟨by decide +kernel, rfl⟩
theorem d_X11_unlike_31 : kf_dq cX11_unlike 31 34 3 (.invokevirtual 190) := ⟨by decide +kernel, rfl⟩
theorem d_X11_unlike_34 : kf_dq cX11_unlike 34 35 1 (.ireturn) := ⟨by decide +kernel, rfl⟩
def f_X11_unlike (v0 : Nat) (v1 : Int32) (v2 : Int32) (σ : kf_St) : Option (Int32 × kf_St) :=
  (f_X10_hasBoth (kf_rf v0 1) v1 v2 σ).bind fun q_1 =>
  if q_1.1 = 0 then
    some ((-1), q_1.2)
  else
    if kf_ix v1 (kf_ln (kf_rf (kf_rf v0 4) 0)) = true then
    (f_X10_unlikeTo (kf_rf v0 1) (kf_rf (kf_rf (kf_rf (kf_rf v0 4) 0) (Int32.toNatClampNeg v1)) 0) v2 q_1.2).bind fun q_4 =>
    some (q_4.1, q_4.2)
    else none
set_option maxRecDepth 100000 in
set_option maxHeartbeats 4000000 in
theorem c_X11_unlike {G : kf_G} (hty : kf_wt G) (v0 : Nat) (v1 : Int32) (v2 : Int32) (k_v0 : kf_kd G v0 = 12) (σ : kf_St) {q : (Int32 × kf_St)} (h : f_X11_unlike v0 v1 v2 σ = some q) : kf_Ct (3) yX11_unlike cX11_unlike 3 (some .int) G [.ref (kf_ad G v0), .int v1, .int v2] σ (some (.int q.1)) q.2 := by
  refine kf_Ct.of hty.1 (lv := [(0, .ref (kf_ad G v0)), (1, .int v1), (2, .int v2)]) (by decide +kernel) rfl (Nat.le_of_ble_eq_true rfl) (fun X E => ?_)
  unfold f_X11_unlike at h
  refine wa_aload_n 0 rfl E d_X11_unlike_0 ?_
  refine wa_getR fl_X11_19 k_v0 rfl E d_X11_unlike_1 ?_
  refine wa_iload_n 1 rfl E d_X11_unlike_4 ?_
  refine wa_iload_n 2 rfl E d_X11_unlike_5 ?_
  obtain ⟨q_1, hq_1, h⟩ := kf_bd h
  refine wa_callV (st2 := [.int q_1.1]) (c_X10_hasBoth hty (kf_rf v0 1) v1 v2 (kf_wtf hty 1 10 k_v0 (by decide) rfl) σ hq_1) mv_X10_hasBoth ml_X11_187 (kf_wtf hty 1 10 k_v0 (by decide) rfl) rfl (Nat.le_of_ble_eq_true rfl) rfl (Nat.le_of_ble_eq_true rfl) E d_X11_unlike_6 rfl ?_
  refine wa_if_ne E d_X11_unlike_9 (fun c_2 => ?_) (fun c_2 => ?_)
  · replace h := kf_iff c_2 h
    refine wa_aload_n 0 rfl E d_X11_unlike_14 ?_
    refine wa_getR fl_X11_19 k_v0 rfl E d_X11_unlike_15 ?_
    refine wa_aload_n 0 rfl E d_X11_unlike_18 ?_
    refine wa_getR fl_X11_38 k_v0 rfl E d_X11_unlike_19 ?_
    refine wa_getR fl_X11_119 (kf_wtf hty 4 7 k_v0 (by decide) rfl) rfl E d_X11_unlike_22 ?_
    refine wa_iload_n 1 rfl E d_X11_unlike_25 ?_
    obtain ⟨g_3, h⟩ := kf_gd h
    refine wa_aald (kf_wtf hty 0 53 (kf_wtf hty 4 7 k_v0 (by decide) rfl) (by decide) rfl) g_3 E d_X11_unlike_26 ?_
    refine wa_getR fl_X11_123 (kf_wta hty (kf_wtf hty 0 53 (kf_wtf hty 4 7 k_v0 (by decide) rfl) (by decide) rfl) g_3) rfl E d_X11_unlike_27 ?_
    refine wa_iload_n 2 rfl E d_X11_unlike_30 ?_
    obtain ⟨q_4, hq_4, h⟩ := kf_bd h
    refine wa_callV (st2 := [.int q_4.1]) (c_X10_unlikeTo hty (kf_rf v0 1) (kf_rf (kf_rf (kf_rf (kf_rf v0 4) 0) (Int32.toNatClampNeg v1)) 0) v2 (kf_wtf hty 1 10 k_v0 (by decide) rfl) (kf_wtf hty 0 49 (kf_wta hty (kf_wtf hty 0 53 (kf_wtf hty 4 7 k_v0 (by decide) rfl) (by decide) rfl) g_3) (by decide) rfl) q_1.2 hq_4) mv_X10_unlikeTo ml_X11_190 (kf_wtf hty 1 10 k_v0 (by decide) rfl) rfl (Nat.le_of_ble_eq_true rfl) rfl (Nat.le_of_ble_eq_true rfl) E d_X11_unlike_31 rfl ?_
    cases h
    exact wa_iret E d_X11_unlike_34
  · replace h := kf_ift c_2 h
    refine wa_iconst (-1) ic_m1 E d_X11_unlike_12 ?_
    cases h
    exact wa_iret E d_X11_unlike_13
/-! X11_tells -/
theorem d_X11_tells_0 : kf_dq cX11_tells 0 1 1 (.aload_n 0) := ⟨by decide +kernel, rfl⟩
theorem d_X11_tells_1 : kf_dq cX11_tells 1 4 3 (.getfield 19) := ⟨by decide +kernel, rfl⟩
theorem d_X11_tells_4 : kf_dq cX11_tells 4 5 1 (.iload_n 1) := ⟨by decide +kernel, rfl⟩
theorem d_X11_tells_5 : kf_dq cX11_tells 5 6 1 (.iload_n 2) := ⟨by decide +kernel, rfl⟩
theorem d_X11_tells_6 : kf_dq cX11_tells 6 9 3 (.invokevirtual 187) := ⟨by decide +kernel, rfl⟩
theorem d_X11_tells_9 : kf_dj cX11_tells 9 12 21 (.ifCond .eq) := ⟨12, by decide +kernel, rfl, by decide⟩
theorem d_X11_tells_12 : kf_dq cX11_tells 12 13 1 (.iload_n 3) := ⟨by decide +kernel, rfl⟩
theorem d_X11_tells_13 : kf_dj cX11_tells 13 16 21 (.ifCond .lt) := ⟨8, by decide +kernel, rfl, by decide⟩
theorem d_X11_tells_16 : kf_dq cX11_tells 16 17 1 (.iload_n 3) := ⟨by decide +kernel, rfl⟩
theorem d_X11_tells_17 : kf_dq cX11_tells 17 18 1 (.iconst 4) := ⟨by decide +kernel, rfl⟩
theorem d_X11_tells_18 : kf_dj cX11_tells 18 21 23 (.if_icmp .le) := ⟨5, by decide +kernel, rfl, by decide⟩
theorem d_X11_tells_21 : kf_dq cX11_tells 21 22 1 (.iconst (-1)) := ⟨by decide +kernel, rfl⟩
theorem d_X11_tells_22 : kf_dq cX11_tells 22 23 1 (.ireturn) := ⟨by decide +kernel, rfl⟩
theorem d_X11_tells_23 : kf_dq cX11_tells 23 24 1 (.aload_n 0) := ⟨by decide +kernel, rfl⟩
theorem d_X11_tells_24 : kf_dq cX11_tells 24 27 3 (.getfield 38) := ⟨by decide +kernel, rfl⟩
theorem d_X11_tells_27 : kf_dq cX11_tells 27 30 3 (.getfield 119) := ⟨by decide +kernel, rfl⟩
theorem d_X11_tells_30 : kf_dq cX11_tells 30 31 1 (.iload_n 1) := ⟨by decide +kernel, rfl⟩
theorem d_X11_tells_31 : kf_dq cX11_tells 31 32 1 (.aaload) := ⟨by decide +kernel, rfl⟩
theorem d_X11_tells_32 : kf_dq cX11_tells 32 34 2 (.astore 4) := ⟨by decide +kernel, rfl⟩
theorem d_X11_tells_34 : kf_dq cX11_tells 34 35 1 (.iload_n 3) := ⟨by decide +kernel, rfl⟩
theorem d_X11_tells_35 : kf_dq cX11_tells 35 36 1 (.iconst 4) := ⟨by decide +kernel, rfl⟩
theorem d_X11_tells_36 : kf_dj cX11_tells 36 39 57 (.if_icmp .ne) := ⟨21, by decide +kernel, rfl, by decide⟩
theorem d_X11_tells_39 : kf_dq cX11_tells 39 40 1 (.aload_n 0) := ⟨by decide +kernel, rfl⟩
theorem d_X11_tells_40 : kf_dq cX11_tells 40 43 3 (.getfield 54) := ⟨by decide +kernel, rfl⟩
theorem d_X11_tells_43 : kf_dq cX11_tells 43 45 2 (.aload 4) := ⟨by decide +kernel, rfl⟩
theorem d_X11_tells_45 : kf_dq cX11_tells 45 46 1 (.iload_n 2) := ⟨by decide +kernel, rfl⟩
theorem d_X11_tells_46 : kf_dq cX11_tells 46 47 1 (.aload_n 0) := ⟨by decide +kernel, rfl⟩
theorem d_X11_tells_47 : kf_dq cX11_tells 47 50 3 (.getfield 38) := ⟨by decide +kernel, rfl⟩
theorem d_X11_tells_50 : kf_dq cX11_tells 50 53 3 (.getfield 180) := ⟨by decide +kernel, rfl⟩
theorem d_X11_tells_53 : kf_dq cX11_tells 53 56 3 (.invokevirtual 194) := ⟨by decide +kernel, rfl⟩
theorem d_X11_tells_56 : kf_dq cX11_tells 56 57 1 (.ireturn) := ⟨by decide +kernel, rfl⟩
theorem d_X11_tells_57 : kf_dq cX11_tells 57 58 1 (.aload_n 0) := ⟨by decide +kernel, rfl⟩
theorem d_X11_tells_58 : kf_dq cX11_tells 58 61 3 (.getfield 54) := ⟨by decide +kernel, rfl⟩
theorem d_X11_tells_61 : kf_dq cX11_tells 61 62 1 (.aload_n 0) := ⟨by decide +kernel, rfl⟩
theorem d_X11_tells_62 : kf_dq cX11_tells 62 65 3 (.getfield 19) := ⟨by decide +kernel, rfl⟩
theorem d_X11_tells_65 : kf_dq cX11_tells 65 68 3 (.getfield 198) := ⟨by decide +kernel, rfl⟩
theorem d_X11_tells_68 : kf_dq cX11_tells 68 70 2 (.aload 4) := ⟨by decide +kernel, rfl⟩
theorem d_X11_tells_70 : kf_dq cX11_tells 70 71 1 (.aload_n 0) := ⟨by decide +kernel, rfl⟩
theorem d_X11_tells_71 : kf_dq cX11_tells 71 74 3 (.getfield 19) := ⟨by decide +kernel, rfl⟩
theorem d_X11_tells_74 : kf_dq cX11_tells 74 77 3 (.getfield 152) := ⟨by decide +kernel, rfl⟩
theorem d_X11_tells_77 : kf_dq cX11_tells 77 78 1 (.iload_n 2) := ⟨by decide +kernel, rfl⟩
theorem d_X11_tells_78 : kf_dq cX11_tells 78 79 1 (.iload_n 3) := ⟨by decide +kernel, rfl⟩
theorem d_X11_tells_79 : kf_dq cX11_tells 79 80 1 (.aload_n 0) := ⟨by decide +kernel, rfl⟩
theorem d_X11_tells_80 : kf_dq cX11_tells 80 83 3 (.getfield 38) := ⟨by decide +kernel, rfl⟩
theorem d_X11_tells_83 : kf_dq cX11_tells 83 86 3 (.getfield 180) := ⟨by decide +kernel, rfl⟩
theorem d_X11_tells_86 : kf_dq cX11_tells 86 89 3 (.invokevirtual 202) := ⟨by decide +kernel, rfl⟩
theorem d_X11_tells_89 : kf_dq cX11_tells 89 90 1 (.ireturn) := ⟨by decide +kernel, rfl⟩
def f_X11_tells (v0 : Nat) (v1 : Int32) (v2 : Int32) (v3 : Int32) (σ : kf_St) : Option (Int32 × kf_St) :=
  (f_X10_hasBoth (kf_rf v0 1) v1 v2 σ).bind fun q_1 =>
  if q_1.1 = 0 then
    some ((-1), q_1.2)
  else
    if v3 < 0 then
      some ((-1), q_1.2)
    else
      if v3 ≤ 4 then
        if kf_ix v1 (kf_ln (kf_rf (kf_rf v0 4) 0)) = true then
        if v3 = 4 then
          (f_X4_payOf (kf_rf v0 6) (kf_rf (kf_rf (kf_rf v0 4) 0) (Int32.toNatClampNeg v1)) v2 (q_1.2.1 (kf_rf v0 4) 3) q_1.2).bind fun q_8 =>
          some (q_8.1, q_8.2)
        else
          (f_X4_stepOf (kf_rf v0 6) (kf_rf (kf_rf v0 1) 14) (kf_rf (kf_rf (kf_rf v0 4) 0) (Int32.toNatClampNeg v1)) (kf_rf (kf_rf v0 1) 9) v2 v3 (q_1.2.1 (kf_rf v0 4) 3) q_1.2).bind fun q_7 =>
          some (q_7.1, q_7.2)
        else none
      else
        some ((-1), q_1.2)
set_option maxRecDepth 100000 in
set_option maxHeartbeats 4000000 in
theorem c_X11_tells {G : kf_G} (hty : kf_wt G) (v0 : Nat) (v1 : Int32) (v2 : Int32) (v3 : Int32) (k_v0 : kf_kd G v0 = 12) (σ : kf_St) {q : (Int32 × kf_St)} (h : f_X11_tells v0 v1 v2 v3 σ = some q) : kf_Ct (4) yX11_tells cX11_tells 5 (some .int) G [.ref (kf_ad G v0), .int v1, .int v2, .int v3] σ (some (.int q.1)) q.2 := by
  refine kf_Ct.of hty.1 (lv := [(0, .ref (kf_ad G v0)), (1, .int v1), (2, .int v2), (3, .int v3)]) (by decide +kernel) rfl (Nat.le_of_ble_eq_true rfl) (fun X E => ?_)
  unfold f_X11_tells at h
  refine wa_aload_n 0 rfl E d_X11_tells_0 ?_
  refine wa_getR fl_X11_19 k_v0 rfl E d_X11_tells_1 ?_
  refine wa_iload_n 1 rfl E d_X11_tells_4 ?_
  refine wa_iload_n 2 rfl E d_X11_tells_5 ?_
  obtain ⟨q_1, hq_1, h⟩ := kf_bd h
  refine wa_callV (st2 := [.int q_1.1]) (c_X10_hasBoth hty (kf_rf v0 1) v1 v2 (kf_wtf hty 1 10 k_v0 (by decide) rfl) σ hq_1) mv_X10_hasBoth ml_X11_187 (kf_wtf hty 1 10 k_v0 (by decide) rfl) rfl (Nat.le_of_ble_eq_true rfl) rfl (Nat.le_of_ble_eq_true rfl) E d_X11_tells_6 rfl ?_
  refine wa_if_eq E d_X11_tells_9 (fun c_2 => ?_) (fun c_2 => ?_)
  · replace h := kf_ift c_2 h
    refine wa_iconst (-1) ic_m1 E d_X11_tells_21 ?_
    cases h
    exact wa_iret E d_X11_tells_22
  · replace h := kf_iff c_2 h
    refine wa_iload_n 3 rfl E d_X11_tells_12 ?_
    refine wa_if_lt E d_X11_tells_13 (fun c_3 => ?_) (fun c_3 => ?_)
    · replace h := kf_ift c_3 h
      refine wa_iconst (-1) ic_m1 E d_X11_tells_21 ?_
      cases h
      exact wa_iret E d_X11_tells_22
    · replace h := kf_iff c_3 h
      refine wa_iload_n 3 rfl E d_X11_tells_16 ?_
      refine wa_iconst 4 ic_4 E d_X11_tells_17 ?_
      refine wa_icmp_le E d_X11_tells_18 (fun c_4 => ?_) (fun c_4 => ?_)
      · replace h := kf_ift c_4 h
        refine wa_aload_n 0 rfl E d_X11_tells_23 ?_
        refine wa_getR fl_X11_38 k_v0 rfl E d_X11_tells_24 ?_
        refine wa_getR fl_X11_119 (kf_wtf hty 4 7 k_v0 (by decide) rfl) rfl E d_X11_tells_27 ?_
        refine wa_iload_n 1 rfl E d_X11_tells_30 ?_
        obtain ⟨g_5, h⟩ := kf_gd h
        refine wa_aald (kf_wtf hty 0 53 (kf_wtf hty 4 7 k_v0 (by decide) rfl) (by decide) rfl) g_5 E d_X11_tells_31 ?_
        refine wa_astore (lv' := [(4, .ref (kf_ad G (kf_rf (kf_rf (kf_rf v0 4) 0) (Int32.toNatClampNeg v1)))), (0, .ref (kf_ad G v0)), (1, .int v1), (2, .int v2), (3, .int v3)]) (by decide) rfl E d_X11_tells_32 ?_
        refine wa_iload_n 4 rfl E d_X11_tells_34 ?_
        refine wa_iconst 4 ic_4 E d_X11_tells_35 ?_
        refine wa_icmp_ne E d_X11_tells_36 (fun c_6 => ?_) (fun c_6 => ?_)
        · replace h := kf_iff c_6 h
          refine wa_aload_n 1 rfl E d_X11_tells_57 ?_
          refine wa_getR fl_X11_54 k_v0 rfl E d_X11_tells_58 ?_
          refine wa_aload_n 1 rfl E d_X11_tells_61 ?_
          refine wa_getR fl_X11_19 k_v0 rfl E d_X11_tells_62 ?_
          refine wa_getR fl_X11_198 (kf_wtf hty 1 10 k_v0 (by decide) rfl) rfl E d_X11_tells_65 ?_
          refine wa_aload 0 rfl E d_X11_tells_68 ?_
          refine wa_aload_n 1 rfl E d_X11_tells_70 ?_
          refine wa_getR fl_X11_19 k_v0 rfl E d_X11_tells_71 ?_
          refine wa_getR fl_X11_152 (kf_wtf hty 1 10 k_v0 (by decide) rfl) rfl E d_X11_tells_74 ?_
          refine wa_iload_n 3 rfl E d_X11_tells_77 ?_
          refine wa_iload_n 4 rfl E d_X11_tells_78 ?_
          refine wa_aload_n 1 rfl E d_X11_tells_79 ?_
          refine wa_getR fl_X11_38 k_v0 rfl E d_X11_tells_80 ?_
          refine wa_getI fl_X11_180 (kf_wtf hty 4 7 k_v0 (by decide) rfl) rfl E d_X11_tells_83 ?_
          obtain ⟨q_7, hq_7, h⟩ := kf_bd h
          refine wa_callV (st2 := [.int q_7.1]) (c_X4_stepOf hty (kf_rf v0 6) (kf_rf (kf_rf v0 1) 14) (kf_rf (kf_rf (kf_rf v0 4) 0) (Int32.toNatClampNeg v1)) (kf_rf (kf_rf v0 1) 9) v2 v3 (q_1.2.1 (kf_rf v0 4) 3) (kf_wtf hty 6 4 k_v0 (by decide) rfl) (kf_wtf hty 14 2 (kf_wtf hty 1 10 k_v0 (by decide) rfl) (by decide) rfl) (kf_wta hty (kf_wtf hty 0 53 (kf_wtf hty 4 7 k_v0 (by decide) rfl) (by decide) rfl) g_5) (kf_wtf hty 9 49 (kf_wtf hty 1 10 k_v0 (by decide) rfl) (by decide) rfl) q_1.2 hq_7) mv_X4_stepOf ml_X11_202 (kf_wtf hty 6 4 k_v0 (by decide) rfl) rfl (Nat.le_of_ble_eq_true rfl) rfl (Nat.le_of_ble_eq_true rfl) E d_X11_tells_86 rfl ?_
          cases h
          exact wa_iret E d_X11_tells_89
        · replace h := kf_ift c_6 h
          refine wa_aload_n 1 rfl E d_X11_tells_39 ?_
          refine wa_getR fl_X11_54 k_v0 rfl E d_X11_tells_40 ?_
          refine wa_aload 0 rfl E d_X11_tells_43 ?_
          refine wa_iload_n 3 rfl E d_X11_tells_45 ?_
          refine wa_aload_n 1 rfl E d_X11_tells_46 ?_
          refine wa_getR fl_X11_38 k_v0 rfl E d_X11_tells_47 ?_
          refine wa_getI fl_X11_180 (kf_wtf hty 4 7 k_v0 (by decide) rfl) rfl E d_X11_tells_50 ?_
          obtain ⟨q_8, hq_8, h⟩ := kf_bd h
          refine wa_callV (st2 := [.int q_8.1]) (c_X4_payOf hty (kf_rf v0 6) (kf_rf (kf_rf (kf_rf v0 4) 0) (Int32.toNatClampNeg v1)) v2 (q_1.2.1 (kf_rf v0 4) 3) (kf_wtf hty 6 4 k_v0 (by decide) rfl) (kf_wta hty (kf_wtf hty 0 53 (kf_wtf hty 4 7 k_v0 (by decide) rfl) (by decide) rfl) g_5) q_1.2 hq_8) mv_X4_payOf ml_X11_194 (kf_wtf hty 6 4 k_v0 (by decide) rfl) rfl (Nat.le_of_ble_eq_true rfl) rfl (Nat.le_of_ble_eq_true rfl) E d_X11_tells_53 rfl ?_
          cases h
          exact wa_iret E d_X11_tells_56
      · replace h := kf_iff c_4 h
        refine wa_iconst (-1) ic_m1 E d_X11_tells_21 ?_
        cases h
        exact wa_iret E d_X11_tells_22
