/-! X12_fail -/
theorem d_X12_fail_0 : kf_dq cX12_fail 0 1 1 (.aload_n 0) := ⟨by decide +kernel, rfl⟩
theorem d_X12_fail_1 : kf_dq cX12_fail 1 4 3 (.getfield 203) := ⟨by decide +kernel, rfl⟩
theorem d_X12_fail_4 : kf_dj cX12_fail 4 7 8 (.ifCond .le) := ⟨4, by decide +kernel, rfl, by decide⟩
theorem d_X12_fail_7 : kf_dq cX12_fail 7 8 1 (.return_) := ⟨by decide +kernel, rfl⟩
theorem d_X12_fail_8 : kf_dq cX12_fail 8 9 1 (.aload_n 0) := ⟨by decide +kernel, rfl⟩
theorem d_X12_fail_9 : kf_dq cX12_fail 9 10 1 (.iload_n 1) := ⟨by decide +kernel, rfl⟩
theorem d_X12_fail_10 : kf_dq cX12_fail 10 13 3 (.putfield 203) := ⟨by decide +kernel, rfl⟩
theorem d_X12_fail_13 : kf_dq cX12_fail 13 14 1 (.aload_n 0) := ⟨by decide +kernel, rfl⟩
theorem d_X12_fail_14 : kf_dq cX12_fail 14 15 1 (.aload_n 0) := ⟨by decide +kernel, rfl⟩
theorem d_X12_fail_15 : kf_dq cX12_fail 15 18 3 (.getfield 24) := ⟨by decide +kernel, rfl⟩
theorem d_X12_fail_18 : kf_dq cX12_fail 18 19 1 (.aload_n 0) := ⟨by decide +kernel, rfl⟩
theorem d_X12_fail_19 : kf_dq cX12_fail 19 22 3 (.getfield 206) := ⟨by decide +kernel, rfl⟩
theorem d_X12_fail_22 : kf_dq cX12_fail 22 23 1 (.iaload) := ⟨by decide +kernel, rfl⟩
theorem d_X12_fail_23 : kf_dq cX12_fail 23 26 3 (.putfield 209) := ⟨by decide +kernel, rfl⟩
theorem d_X12_fail_26 : kf_dq cX12_fail 26 27 1 (.return_) := ⟨by decide +kernel, rfl⟩
def f_X12_fail (v0 : Nat) (v1 : Int32) (σ : kf_St) : Option kf_St :=
  if (σ.1 v0 13) ≤ 0 then
    kf_lt (kf_wi σ v0 13 v1) fun σ_2 =>
    if kf_ix (σ_2.1 v0 11) (kf_ln (kf_rf v0 6)) = true then
    kf_lt (kf_wi σ_2 v0 14 (σ_2.1 (kf_rf v0 6) (Int32.toNatClampNeg (σ_2.1 v0 11)))) fun σ_4 =>
    some σ_4
    else none
  else
    some σ
set_option maxRecDepth 100000 in
set_option maxHeartbeats 4000000 in
theorem c_X12_fail {G : kf_G} (hty : kf_wt G) (v0 : Nat) (v1 : Int32) (k_v0 : kf_kd G v0 = 13) (σ : kf_St) {q : kf_St} (h : f_X12_fail v0 v1 σ = some q) : kf_Ct (1) yX12_fail cX12_fail 2 none G [.ref (kf_ad G v0), .int v1] σ none q := by
  refine kf_Ct.of hty.1 (lv := [(0, .ref (kf_ad G v0)), (1, .int v1)]) (by decide +kernel) rfl (Nat.le_of_ble_eq_true rfl) (fun X E => ?_)
  unfold f_X12_fail at h
  refine wa_aload_n 0 rfl E d_X12_fail_0 ?_
  refine wa_getI fl_X12_203 k_v0 rfl E d_X12_fail_1 ?_
  refine wa_if_le E d_X12_fail_4 (fun c_1 => ?_) (fun c_1 => ?_)
  · replace h := kf_ift c_1 h
    refine wa_aload_n 0 rfl E d_X12_fail_8 ?_
    refine wa_iload_n 1 rfl E d_X12_fail_9 ?_
    obtain ⟨σ_2, eσ_2, h⟩ := kf_lte h
    refine wa_putI fl_X12_203 fp_12_13 k_v0 rfl (by decide) rfl rfl E d_X12_fail_10 eσ_2 ?_
    refine wa_aload_n 0 rfl E d_X12_fail_13 ?_
    refine wa_aload_n 0 rfl E d_X12_fail_14 ?_
    refine wa_getR fl_X12_24 k_v0 rfl E d_X12_fail_15 ?_
    refine wa_aload_n 0 rfl E d_X12_fail_18 ?_
    refine wa_getI fl_X12_206 k_v0 rfl E d_X12_fail_19 ?_
    obtain ⟨g_3, h⟩ := kf_gd h
    refine wa_iald (kf_wtf hty 6 49 k_v0 (by decide) rfl) g_3 E d_X12_fail_22 ?_
    obtain ⟨σ_4, eσ_4, h⟩ := kf_lte h
    refine wa_putI fl_X12_209 fp_12_14 k_v0 rfl (by decide) rfl rfl E d_X12_fail_23 eσ_4 ?_
    cases h
    exact wa_vret E d_X12_fail_26
  · replace h := kf_iff c_1 h
    cases h
    exact wa_vret E d_X12_fail_7
/-! X12_wrong -/
theorem d_X12_wrong_0 : kf_dq cX12_wrong 0 1 1 (.aload_n 0) := ⟨by decide +kernel, rfl⟩
theorem d_X12_wrong_1 : kf_dq cX12_wrong 1 4 3 (.getfield 24) := ⟨by decide +kernel, rfl⟩
theorem d_X12_wrong_4 : kf_dq cX12_wrong 4 5 1 (.iload_n 2) := ⟨by decide +kernel, rfl⟩
theorem d_X12_wrong_5 : kf_dq cX12_wrong 5 6 1 (.iaload) := ⟨by decide +kernel, rfl⟩
theorem d_X12_wrong_6 : kf_dq cX12_wrong 6 7 1 (.istore_n 3) := ⟨by decide +kernel, rfl⟩
theorem d_X12_wrong_7 : kf_dq cX12_wrong 7 8 1 (.aload_n 0) := ⟨by decide +kernel, rfl⟩
theorem d_X12_wrong_8 : kf_dq cX12_wrong 8 11 3 (.getfield 203) := ⟨by decide +kernel, rfl⟩
theorem d_X12_wrong_11 : kf_dj cX12_wrong 11 14 45 (.ifCond .gt) := ⟨34, by decide +kernel, rfl, by decide⟩
theorem d_X12_wrong_14 : kf_dq cX12_wrong 14 15 1 (.aload_n 0) := ⟨by decide +kernel, rfl⟩
theorem d_X12_wrong_15 : kf_dq cX12_wrong 15 18 3 (.getfield 212) := ⟨by decide +kernel, rfl⟩
theorem d_X12_wrong_18 : kf_dj cX12_wrong 18 21 46 (.ifCond .eq) := ⟨28, by decide +kernel, rfl, by decide⟩
theorem d_X12_wrong_21 : kf_dq cX12_wrong 21 22 1 (.iload_n 3) := ⟨by decide +kernel, rfl⟩
theorem d_X12_wrong_22 : kf_dq cX12_wrong 22 23 1 (.aload_n 0) := ⟨by decide +kernel, rfl⟩
theorem d_X12_wrong_23 : kf_dq cX12_wrong 23 26 3 (.getfield 215) := ⟨by decide +kernel, rfl⟩
theorem d_X12_wrong_26 : kf_dj cX12_wrong 26 29 45 (.if_icmp .gt) := ⟨19, by decide +kernel, rfl, by decide⟩
theorem d_X12_wrong_29 : kf_dq cX12_wrong 29 30 1 (.iload_n 3) := ⟨by decide +kernel, rfl⟩
theorem d_X12_wrong_30 : kf_dq cX12_wrong 30 31 1 (.aload_n 0) := ⟨by decide +kernel, rfl⟩
theorem d_X12_wrong_31 : kf_dq cX12_wrong 31 34 3 (.getfield 215) := ⟨by decide +kernel, rfl⟩
theorem d_X12_wrong_34 : kf_dj cX12_wrong 34 37 46 (.if_icmp .ne) := ⟨12, by decide +kernel, rfl, by decide⟩
theorem d_X12_wrong_37 : kf_dq cX12_wrong 37 38 1 (.iload_n 1) := ⟨by decide +kernel, rfl⟩
theorem d_X12_wrong_38 : kf_dq cX12_wrong 38 39 1 (.aload_n 0) := ⟨by decide +kernel, rfl⟩
theorem d_X12_wrong_39 : kf_dq cX12_wrong 39 42 3 (.getfield 212) := ⟨by decide +kernel, rfl⟩
theorem d_X12_wrong_42 : kf_dj cX12_wrong 42 45 46 (.if_icmp .lt) := ⟨4, by decide +kernel, rfl, by decide⟩
theorem d_X12_wrong_45 : kf_dq cX12_wrong 45 46 1 (.return_) := ⟨by decide +kernel, rfl⟩
theorem d_X12_wrong_46 : kf_dq cX12_wrong 46 47 1 (.aload_n 0) := ⟨by decide +kernel, rfl⟩
theorem d_X12_wrong_47 : kf_dq cX12_wrong 47 48 1 (.iload_n 1) := ⟨by decide +kernel, rfl⟩
theorem d_X12_wrong_48 : kf_dq cX12_wrong 48 51 3 (.putfield 212) := ⟨by decide +kernel, rfl⟩
theorem d_X12_wrong_51 : kf_dq cX12_wrong 51 52 1 (.aload_n 0) := ⟨by decide +kernel, rfl⟩
theorem d_X12_wrong_52 : kf_dq cX12_wrong 52 53 1 (.iload_n 3) := ⟨by decide +kernel, rfl⟩
theorem d_X12_wrong_53 : kf_dq cX12_wrong 53 56 3 (.putfield 215) := ⟨by decide +kernel, rfl⟩
theorem d_X12_wrong_56 : kf_dq cX12_wrong 56 57 1 (.return_) := ⟨by decide +kernel, rfl⟩
def f_X12_wrong_46 (v0 : Nat) (v1 : Int32) (v3 : Int32) (σ : kf_St) : Option kf_St :=
  kf_lt (kf_wi σ v0 15 v1) fun σ_1 =>
  kf_lt (kf_wi σ_1 v0 16 v3) fun σ_2 =>
  some σ_2
set_option maxRecDepth 100000 in
set_option maxHeartbeats 4000000 in
theorem b_X12_wrong_46 {X : kf_X} {G : kf_G} {q : kf_St} (E : kf_ok X G cX12_wrong RX12 4 none (1)) (hty : kf_wt G) (v0 : Nat) (v1 : Int32) (v3 : Int32) (k_v0 : kf_kd G v0 = 13) (σ : kf_St) (h : f_X12_wrong_46 v0 v1 v3 σ = some q) : kf_WA X G 4 (kf_Q X G none q) 46 [(0, .ref (kf_ad G v0)), (1, .int v1), (3, .int v3)] [] σ := by
  unfold f_X12_wrong_46 at h
  refine wa_aload_n 0 rfl E d_X12_wrong_46 ?_
  refine wa_iload_n 1 rfl E d_X12_wrong_47 ?_
  obtain ⟨σ_1, eσ_1, h⟩ := kf_lte h
  refine wa_putI fl_X12_212 fp_12_15 k_v0 rfl (by decide) rfl rfl E d_X12_wrong_48 eσ_1 ?_
  refine wa_aload_n 0 rfl E d_X12_wrong_51 ?_
  refine wa_iload_n 2 rfl E d_X12_wrong_52 ?_
  obtain ⟨σ_2, eσ_2, h⟩ := kf_lte h
  refine wa_putI fl_X12_215 fp_12_16 k_v0 rfl (by decide) rfl rfl E d_X12_wrong_53 eσ_2 ?_
  cases h
  exact wa_vret E d_X12_wrong_56
def f_X12_wrong (v0 : Nat) (v1 : Int32) (v2 : Int32) (σ : kf_St) : Option kf_St :=
  if kf_ix v2 (kf_ln (kf_rf v0 6)) = true then
  kf_lt ((σ.1 (kf_rf v0 6) (Int32.toNatClampNeg v2))) fun v3_2 =>
  if 0 < (σ.1 v0 13) then
    some σ
  else
    if (σ.1 v0 15) = 0 then
      f_X12_wrong_46 v0 v1 v3_2 σ
    else
      if (σ.1 v0 16) < v3_2 then
        some σ
      else
        if v3_2 = (σ.1 v0 16) then
          if v1 < (σ.1 v0 15) then
            f_X12_wrong_46 v0 v1 v3_2 σ
          else
            some σ
        else
          f_X12_wrong_46 v0 v1 v3_2 σ
  else none
set_option maxRecDepth 100000 in
set_option maxHeartbeats 4000000 in
theorem c_X12_wrong {G : kf_G} (hty : kf_wt G) (v0 : Nat) (v1 : Int32) (v2 : Int32) (k_v0 : kf_kd G v0 = 13) (σ : kf_St) {q : kf_St} (h : f_X12_wrong v0 v1 v2 σ = some q) : kf_Ct (1) yX12_wrong cX12_wrong 4 none G [.ref (kf_ad G v0), .int v1, .int v2] σ none q := by
  refine kf_Ct.of hty.1 (lv := [(0, .ref (kf_ad G v0)), (1, .int v1), (2, .int v2)]) (by decide +kernel) rfl (Nat.le_of_ble_eq_true rfl) (fun X E => ?_)
  unfold f_X12_wrong at h
  refine wa_aload_n 0 rfl E d_X12_wrong_0 ?_
  refine wa_getR fl_X12_24 k_v0 rfl E d_X12_wrong_1 ?_
  refine wa_iload_n 2 rfl E d_X12_wrong_4 ?_
  obtain ⟨g_1, h⟩ := kf_gd h
  refine wa_iald (kf_wtf hty 6 49 k_v0 (by decide) rfl) g_1 E d_X12_wrong_5 ?_
  obtain ⟨v3_2, ev3_2, h⟩ := kf_lte h
  refine wa_topi ev3_2 ?_
  refine wa_istore_n (lv' := [(3, .int v3_2), (0, .ref (kf_ad G v0)), (1, .int v1), (2, .int v2)]) rfl (by decide) rfl E d_X12_wrong_6 ?_
  refine wa_aload_n 1 rfl E d_X12_wrong_7 ?_
  refine wa_getI fl_X12_203 k_v0 rfl E d_X12_wrong_8 ?_
  refine wa_if_gt E d_X12_wrong_11 (fun c_3 => ?_) (fun c_3 => ?_)
  · replace h := kf_ift c_3 h
    cases h
    exact wa_vret E d_X12_wrong_45
  · replace h := kf_iff c_3 h
    refine wa_aload_n 1 rfl E d_X12_wrong_14 ?_
    refine wa_getI fl_X12_212 k_v0 rfl E d_X12_wrong_15 ?_
    refine wa_if_eq E d_X12_wrong_18 (fun c_4 => ?_) (fun c_4 => ?_)
    · replace h := kf_ift c_4 h
      refine wa_sub [1, 2, 0] rfl ?_
      exact b_X12_wrong_46 E hty v0 v1 v3_2 k_v0 σ h
    · replace h := kf_iff c_4 h
      refine wa_iload_n 0 rfl E d_X12_wrong_21 ?_
      refine wa_aload_n 1 rfl E d_X12_wrong_22 ?_
      refine wa_getI fl_X12_215 k_v0 rfl E d_X12_wrong_23 ?_
      refine wa_icmp_gt E d_X12_wrong_26 (fun c_5 => ?_) (fun c_5 => ?_)
      · replace h := kf_ift c_5 h
        cases h
        exact wa_vret E d_X12_wrong_45
      · replace h := kf_iff c_5 h
        refine wa_iload_n 0 rfl E d_X12_wrong_29 ?_
        refine wa_aload_n 1 rfl E d_X12_wrong_30 ?_
        refine wa_getI fl_X12_215 k_v0 rfl E d_X12_wrong_31 ?_
        refine wa_icmp_ne E d_X12_wrong_34 (fun c_6 => ?_) (fun c_6 => ?_)
        · replace h := kf_iff c_6 h
          refine wa_sub [1, 2, 0] rfl ?_
          exact b_X12_wrong_46 E hty v0 v1 v3_2 k_v0 σ h
        · replace h := kf_ift c_6 h
          refine wa_iload_n 2 rfl E d_X12_wrong_37 ?_
          refine wa_aload_n 1 rfl E d_X12_wrong_38 ?_
          refine wa_getI fl_X12_212 k_v0 rfl E d_X12_wrong_39 ?_
          refine wa_icmp_lt E d_X12_wrong_42 (fun c_7 => ?_) (fun c_7 => ?_)
          · replace h := kf_ift c_7 h
            refine wa_sub [1, 2, 0] rfl ?_
            exact b_X12_wrong_46 E hty v0 v1 v3_2 k_v0 σ h
          · replace h := kf_iff c_7 h
            cases h
            exact wa_vret E d_X12_wrong_45
/-! X12_goesOn -/
theorem d_X12_goesOn_0 : kf_dq cX12_goesOn 0 1 1 (.aload_n 0) := ⟨by decide +kernel, rfl⟩
theorem d_X12_goesOn_1 : kf_dq cX12_goesOn 1 4 3 (.getfield 206) := ⟨by decide +kernel, rfl⟩
theorem d_X12_goesOn_4 : kf_dq cX12_goesOn 4 7 3 (.sipush 400) := ⟨by decide +kernel, rfl⟩
theorem d_X12_goesOn_7 : kf_dj cX12_goesOn 7 10 18 (.if_icmp .ne) := ⟨11, by decide +kernel, rfl, by decide⟩
theorem d_X12_goesOn_10 : kf_dq cX12_goesOn 10 11 1 (.aload_n 0) := ⟨by decide +kernel, rfl⟩
theorem d_X12_goesOn_11 : kf_dq cX12_goesOn 11 12 1 (.iconst 2) := ⟨by decide +kernel, rfl⟩
theorem d_X12_goesOn_12 : kf_dq cX12_goesOn 12 15 3 (.invokevirtual 218) := ⟨by decide +kernel, rfl⟩
theorem d_X12_goesOn_15 : kf_dj cX12_goesOn 15 18 28 .goto := ⟨13, by decide +kernel, rfl, by decide⟩
theorem d_X12_goesOn_18 : kf_dq cX12_goesOn 18 19 1 (.aload_n 0) := ⟨by decide +kernel, rfl⟩
theorem d_X12_goesOn_19 : kf_dq cX12_goesOn 19 20 1 (.dup) := ⟨by decide +kernel, rfl⟩
theorem d_X12_goesOn_20 : kf_dq cX12_goesOn 20 23 3 (.getfield 206) := ⟨by decide +kernel, rfl⟩
theorem d_X12_goesOn_23 : kf_dq cX12_goesOn 23 24 1 (.iconst 1) := ⟨by decide +kernel, rfl⟩
theorem d_X12_goesOn_24 : kf_dq cX12_goesOn 24 25 1 (.iadd) := ⟨by decide +kernel, rfl⟩
theorem d_X12_goesOn_25 : kf_dq cX12_goesOn 25 28 3 (.putfield 206) := ⟨by decide +kernel, rfl⟩
theorem d_X12_goesOn_28 : kf_dq cX12_goesOn 28 29 1 (.return_) := ⟨by decide +kernel, rfl⟩
def f_X12_goesOn (v0 : Nat) (σ : kf_St) : Option kf_St :=
  if (σ.1 v0 11) = 400 then
    (f_X12_fail v0 2 σ).bind fun q_3 =>
    some q_3
  else
    kf_lt (kf_wi σ v0 11 ((σ.1 v0 11) + 1)) fun σ_2 =>
    some σ_2
set_option maxRecDepth 100000 in
set_option maxHeartbeats 4000000 in
theorem c_X12_goesOn {G : kf_G} (hty : kf_wt G) (v0 : Nat) (k_v0 : kf_kd G v0 = 13) (σ : kf_St) {q : kf_St} (h : f_X12_goesOn v0 σ = some q) : kf_Ct (2) yX12_goesOn cX12_goesOn 1 none G [.ref (kf_ad G v0)] σ none q := by
  refine kf_Ct.of hty.1 (lv := [(0, .ref (kf_ad G v0))]) (by decide +kernel) rfl (Nat.le_of_ble_eq_true rfl) (fun X E => ?_)
  unfold f_X12_goesOn at h
  refine wa_aload_n 0 rfl E d_X12_goesOn_0 ?_
  refine wa_getI fl_X12_206 k_v0 rfl E d_X12_goesOn_1 ?_
  refine wa_sipush 400 sp_400 E d_X12_goesOn_4 ?_
  refine wa_icmp_ne E d_X12_goesOn_7 (fun c_1 => ?_) (fun c_1 => ?_)
  · replace h := kf_iff c_1 h
    refine wa_aload_n 0 rfl E d_X12_goesOn_18 ?_
    refine wa_dup rfl E d_X12_goesOn_19 ?_
    refine wa_getI fl_X12_206 k_v0 rfl E d_X12_goesOn_20 ?_
    refine wa_iconst 1 ic_1 E d_X12_goesOn_23 ?_
    refine wa_iadd E d_X12_goesOn_24 ?_
    obtain ⟨σ_2, eσ_2, h⟩ := kf_lte h
    refine wa_putI fl_X12_206 fp_12_11 k_v0 rfl (by decide) rfl rfl E d_X12_goesOn_25 eσ_2 ?_
    cases h
    exact wa_vret E d_X12_goesOn_28
  · replace h := kf_ift c_1 h
    refine wa_aload_n 0 rfl E d_X12_goesOn_10 ?_
    refine wa_iconst 2 ic_2 E d_X12_goesOn_11 ?_
    obtain ⟨q_3, hq_3, h⟩ := kf_bd h
    refine wa_callV (st2 := []) (c_X12_fail hty v0 2 k_v0 σ hq_3) mv_X12_fail ml_X12_218 k_v0 rfl (Nat.le_of_ble_eq_true rfl) rfl (Nat.le_of_ble_eq_true rfl) E d_X12_goesOn_12 rfl ?_
    refine wa_goto E d_X12_goesOn_15 ?_
    cases h
    exact wa_vret E d_X12_goesOn_28
/-! X12_must -/
theorem d_X12_must_0 : kf_dq cX12_must 0 1 1 (.aload_n 0) := ⟨by decide +kernel, rfl⟩
theorem d_X12_must_1 : kf_dq cX12_must 1 2 1 (.iload_n 1) := ⟨by decide +kernel, rfl⟩
theorem d_X12_must_2 : kf_dq cX12_must 2 5 3 (.invokevirtual 221) := ⟨by decide +kernel, rfl⟩
theorem d_X12_must_5 : kf_dj cX12_must 5 8 15 (.ifCond .eq) := ⟨10, by decide +kernel, rfl, by decide⟩
theorem d_X12_must_8 : kf_dq cX12_must 8 9 1 (.aload_n 0) := ⟨by decide +kernel, rfl⟩
theorem d_X12_must_9 : kf_dq cX12_must 9 12 3 (.invokevirtual 224) := ⟨by decide +kernel, rfl⟩
theorem d_X12_must_12 : kf_dj cX12_must 12 15 20 .goto := ⟨8, by decide +kernel, rfl, by decide⟩
theorem d_X12_must_15 : kf_dq cX12_must 15 16 1 (.aload_n 0) := ⟨by decide +kernel, rfl⟩
theorem d_X12_must_16 : kf_dq cX12_must 16 17 1 (.iconst 1) := ⟨by decide +kernel, rfl⟩
theorem d_X12_must_17 : kf_dq cX12_must 17 20 3 (.invokevirtual 218) := ⟨by decide +kernel, rfl⟩
theorem d_X12_must_20 : kf_dq cX12_must 20 21 1 (.return_) := ⟨by decide +kernel, rfl⟩
def f_X12_must (v0 : Nat) (v1 : Int32) (σ : kf_St) : Option kf_St :=
  (f_X12_is v0 v1 σ).bind fun q_1 =>
  if q_1.1 = 0 then
    (f_X12_fail v0 1 q_1.2).bind fun q_3 =>
    some q_3
  else
    (f_X12_goesOn v0 q_1.2).bind fun q_4 =>
    some q_4
set_option maxRecDepth 100000 in
set_option maxHeartbeats 4000000 in
theorem c_X12_must {G : kf_G} (hty : kf_wt G) (v0 : Nat) (v1 : Int32) (k_v0 : kf_kd G v0 = 13) (σ : kf_St) {q : kf_St} (h : f_X12_must v0 v1 σ = some q) : kf_Ct (3) yX12_must cX12_must 2 none G [.ref (kf_ad G v0), .int v1] σ none q := by
  refine kf_Ct.of hty.1 (lv := [(0, .ref (kf_ad G v0)), (1, .int v1)]) (by decide +kernel) rfl (Nat.le_of_ble_eq_true rfl) (fun X E => ?_)
  unfold f_X12_must at h
  refine wa_aload_n 0 rfl E d_X12_must_0 ?_
  refine wa_iload_n 1 rfl E d_X12_must_1 ?_
  obtain ⟨q_1, hq_1, h⟩ := kf_bd h
  refine wa_callV (st2 := [.int q_1.1]) (c_X12_is hty v0 v1 k_v0 σ hq_1) mv_X12_is ml_X12_221 k_v0 rfl (Nat.le_of_ble_eq_true rfl) rfl (Nat.le_of_ble_eq_true rfl) E d_X12_must_2 rfl ?_
  refine wa_if_eq E d_X12_must_5 (fun c_2 => ?_) (fun c_2 => ?_)
  · replace h := kf_ift c_2 h
    refine wa_aload_n 0 rfl E d_X12_must_15 ?_
    refine wa_iconst 1 ic_1 E d_X12_must_16 ?_
    obtain ⟨q_3, hq_3, h⟩ := kf_bd h
    refine wa_callV (st2 := []) (c_X12_fail hty v0 1 k_v0 q_1.2 hq_3) mv_X12_fail ml_X12_218 k_v0 rfl (Nat.le_of_ble_eq_true rfl) rfl (Nat.le_of_ble_eq_true rfl) E d_X12_must_17 rfl ?_
    cases h
    exact wa_vret E d_X12_must_20
  · replace h := kf_iff c_2 h
    refine wa_aload_n 0 rfl E d_X12_must_8 ?_
    obtain ⟨q_4, hq_4, h⟩ := kf_bd h
    refine wa_callV (st2 := []) (c_X12_goesOn hty v0 k_v0 q_1.2 hq_4) mv_X12_goesOn ml_X12_224 k_v0 rfl (Nat.le_of_ble_eq_true rfl) rfl (Nat.le_of_ble_eq_true rfl) E d_X12_must_9 rfl ?_
    refine wa_goto E d_X12_must_12 ?_
    cases h
    exact wa_vret E d_X12_must_20
/-! X12_roomFor -/
theorem d_X12_roomFor_0 : kf_dq cX12_roomFor 0 1 1 (.iload_n 1) := ⟨by decide +kernel, rfl⟩
theorem d_X12_roomFor_1 : kf_dq cX12_roomFor 1 2 1 (.iload_n 2) := ⟨by decide +kernel, rfl⟩
theorem d_X12_roomFor_2 : kf_dj cX12_roomFor 2 5 10 (.if_icmp .ne) := ⟨8, by decide +kernel, rfl, by decide⟩
theorem d_X12_roomFor_5 : kf_dq cX12_roomFor 5 6 1 (.aload_n 0) := ⟨by decide +kernel, rfl⟩
theorem d_X12_roomFor_6 : kf_dq cX12_roomFor 6 7 1 (.iconst 2) := ⟨by decide +kernel, rfl⟩
theorem d_X12_roomFor_7 : kf_dq cX12_roomFor 7 10 3 (.invokevirtual 218) := ⟨by decide +kernel, rfl⟩
theorem d_X12_roomFor_10 : kf_dq cX12_roomFor 10 11 1 (.aload_n 0) := ⟨by decide +kernel, rfl⟩
theorem d_X12_roomFor_11 : kf_dq cX12_roomFor 11 14 3 (.getfield 203) := ⟨by decide +kernel, rfl⟩
theorem d_X12_roomFor_14 : kf_dj cX12_roomFor 14 17 21 (.ifCond .ne) := ⟨7, by decide +kernel, rfl, by decide⟩
theorem d_X12_roomFor_17 : kf_dq cX12_roomFor 17 18 1 (.aload_n 0) := ⟨by decide +kernel, rfl⟩
theorem d_X12_roomFor_18 : kf_dq cX12_roomFor 18 21 3 (.invokevirtual 224) := ⟨by decide +kernel, rfl⟩
theorem d_X12_roomFor_21 : kf_dq cX12_roomFor 21 22 1 (.return_) := ⟨by decide +kernel, rfl⟩
def f_X12_roomFor_10 (v0 : Nat) (σ : kf_St) : Option kf_St :=
  if (σ.1 v0 13) = 0 then
    (f_X12_goesOn v0 σ).bind fun q_2 =>
    some q_2
  else
    some σ
set_option maxRecDepth 100000 in
set_option maxHeartbeats 4000000 in
theorem b_X12_roomFor_10 {X : kf_X} {G : kf_G} {q : kf_St} (E : kf_ok X G cX12_roomFor RX12 3 none (3)) (hty : kf_wt G) (v0 : Nat) (k_v0 : kf_kd G v0 = 13) (σ : kf_St) (h : f_X12_roomFor_10 v0 σ = some q) : kf_WA X G 3 (kf_Q X G none q) 10 [(0, .ref (kf_ad G v0))] [] σ := by
  unfold f_X12_roomFor_10 at h
  refine wa_aload_n 0 rfl E d_X12_roomFor_10 ?_
  refine wa_getI fl_X12_203 k_v0 rfl E d_X12_roomFor_11 ?_
  refine wa_if_ne E d_X12_roomFor_14 (fun c_1 => ?_) (fun c_1 => ?_)
  · replace h := kf_iff c_1 h
    cases h
    exact wa_vret E d_X12_roomFor_21
  · replace h := kf_ift c_1 h
    refine wa_aload_n 0 rfl E d_X12_roomFor_17 ?_
    obtain ⟨q_2, hq_2, h⟩ := kf_bd h
    refine wa_callV (st2 := []) (c_X12_goesOn hty v0 k_v0 σ hq_2) mv_X12_goesOn ml_X12_224 k_v0 rfl (Nat.le_of_ble_eq_true rfl) rfl (Nat.le_of_ble_eq_true rfl) E d_X12_roomFor_18 rfl ?_
    cases h
    exact wa_vret E d_X12_roomFor_21
def f_X12_roomFor (v0 : Nat) (v1 : Int32) (v2 : Int32) (σ : kf_St) : Option kf_St :=
  if v1 = v2 then
    (f_X12_fail v0 2 σ).bind fun q_2 =>
    f_X12_roomFor_10 v0 q_2
  else
    f_X12_roomFor_10 v0 σ
set_option maxRecDepth 100000 in
set_option maxHeartbeats 4000000 in
theorem c_X12_roomFor {G : kf_G} (hty : kf_wt G) (v0 : Nat) (v1 : Int32) (v2 : Int32) (k_v0 : kf_kd G v0 = 13) (σ : kf_St) {q : kf_St} (h : f_X12_roomFor v0 v1 v2 σ = some q) : kf_Ct (3) yX12_roomFor cX12_roomFor 3 none G [.ref (kf_ad G v0), .int v1, .int v2] σ none q := by
  refine kf_Ct.of hty.1 (lv := [(0, .ref (kf_ad G v0)), (1, .int v1), (2, .int v2)]) (by decide +kernel) rfl (Nat.le_of_ble_eq_true rfl) (fun X E => ?_)
  unfold f_X12_roomFor at h
  refine wa_iload_n 1 rfl E d_X12_roomFor_0 ?_
  refine wa_iload_n 2 rfl E d_X12_roomFor_1 ?_
  refine wa_icmp_ne E d_X12_roomFor_2 (fun c_1 => ?_) (fun c_1 => ?_)
  · replace h := kf_iff c_1 h
    refine wa_sub [0] rfl ?_
    exact b_X12_roomFor_10 E hty v0 k_v0 σ h
  · replace h := kf_ift c_1 h
    refine wa_aload_n 0 rfl E d_X12_roomFor_5 ?_
    refine wa_iconst 2 ic_2 E d_X12_roomFor_6 ?_
    obtain ⟨q_2, hq_2, h⟩ := kf_bd h
    refine wa_callV (st2 := []) (c_X12_fail hty v0 2 k_v0 σ hq_2) mv_X12_fail ml_X12_218 k_v0 rfl (Nat.le_of_ble_eq_true rfl) rfl (Nat.le_of_ble_eq_true rfl) E d_X12_roomFor_7 rfl ?_
    refine wa_sub [0] rfl ?_
    exact b_X12_roomFor_10 E hty v0 k_v0 q_2 h
/-! X12_named -/
theorem d_X12_named_0 : kf_dq cX12_named 0 1 1 (.aload_n 0) := ⟨by decide +kernel, rfl⟩
theorem d_X12_named_1 : kf_dq cX12_named 1 4 3 (.getfield 206) := ⟨by decide +kernel, rfl⟩
theorem d_X12_named_4 : kf_dq cX12_named 4 5 1 (.istore_n 1) := ⟨by decide +kernel, rfl⟩
theorem d_X12_named_5 : kf_dq cX12_named 5 6 1 (.aload_n 0) := ⟨by decide +kernel, rfl⟩
theorem d_X12_named_6 : kf_dq cX12_named 6 7 1 (.iconst 1) := ⟨by decide +kernel, rfl⟩
theorem d_X12_named_7 : kf_dq cX12_named 7 10 3 (.invokevirtual 261) := ⟨by decide +kernel, rfl⟩
theorem d_X12_named_10 : kf_dq cX12_named 10 11 1 (.iconst 0) := ⟨by decide +kernel, rfl⟩
theorem d_X12_named_11 : kf_dq cX12_named 11 12 1 (.istore_n 2) := ⟨by decide +kernel, rfl⟩
theorem d_X12_named_12 : kf_dq cX12_named 12 13 1 (.iload_n 2) := ⟨by decide +kernel, rfl⟩
theorem d_X12_named_13 : kf_dq cX12_named 13 14 1 (.aload_n 0) := ⟨by decide +kernel, rfl⟩
theorem d_X12_named_14 : kf_dq cX12_named 14 17 3 (.getfield 239) := ⟨by decide +kernel, rfl⟩
theorem d_X12_named_17 : kf_dj cX12_named 17 20 55 (.if_icmp .ge) := ⟨38, by decide +kernel, rfl, by decide⟩
theorem d_X12_named_20 : kf_dq cX12_named 20 21 1 (.aload_n 0) := ⟨by decide +kernel, rfl⟩
theorem d_X12_named_21 : kf_dq cX12_named 21 24 3 (.getfield 203) := ⟨by decide +kernel, rfl⟩
theorem d_X12_named_24 : kf_dj cX12_named 24 27 55 (.ifCond .ne) := ⟨31, by decide +kernel, rfl, by decide⟩
theorem d_X12_named_27 : kf_dq cX12_named 27 28 1 (.aload_n 0) := ⟨by decide +kernel, rfl⟩
theorem d_X12_named_28 : kf_dq cX12_named 28 31 3 (.getfield 40) := ⟨by decide +kernel, rfl⟩
theorem d_X12_named_31 : kf_dq cX12_named 31 32 1 (.iload_n 2) := ⟨by decide +kernel, rfl⟩
theorem d_X12_named_32 : kf_dq cX12_named 32 33 1 (.laload) := ⟨by decide +kernel, rfl⟩
theorem d_X12_named_33 : kf_dq cX12_named 33 34 1 (.aload_n 0) := ⟨by decide +kernel, rfl⟩
theorem d_X12_named_34 : kf_dq cX12_named 34 37 3 (.getfield 30) := ⟨by decide +kernel, rfl⟩
theorem d_X12_named_37 : kf_dq cX12_named 37 38 1 (.iload_n 1) := ⟨by decide +kernel, rfl⟩
theorem d_X12_named_38 : kf_dq cX12_named 38 39 1 (.laload) := ⟨by decide +kernel, rfl⟩
theorem d_X12_named_39 : kf_dq cX12_named 39 40 1 (.lcmp) := ⟨by decide +kernel, rfl⟩
theorem d_X12_named_40 : kf_dj cX12_named 40 43 49 (.ifCond .ne) := ⟨9, by decide +kernel, rfl, by decide⟩
theorem d_X12_named_43 : kf_dq cX12_named 43 44 1 (.aload_n 0) := ⟨by decide +kernel, rfl⟩
theorem d_X12_named_44 : kf_dq cX12_named 44 45 1 (.iconst 3) := ⟨by decide +kernel, rfl⟩
theorem d_X12_named_45 : kf_dq cX12_named 45 46 1 (.iload_n 1) := ⟨by decide +kernel, rfl⟩
theorem d_X12_named_46 : kf_dq cX12_named 46 49 3 (.invokevirtual 284) := ⟨by decide +kernel, rfl⟩
theorem d_X12_named_49 : kf_dq cX12_named 49 52 3 (.iinc 2 1) := ⟨by decide +kernel, rfl⟩
theorem d_X12_named_52 : kf_dj cX12_named 52 55 12 .goto := ⟨(-40), by decide +kernel, rfl, by decide⟩
theorem d_X12_named_55 : kf_dq cX12_named 55 56 1 (.iload_n 1) := ⟨by decide +kernel, rfl⟩
theorem d_X12_named_56 : kf_dq cX12_named 56 57 1 (.ireturn) := ⟨by decide +kernel, rfl⟩
def f_X12_named_49 (rec12 : Nat → Int32 → Int32 → kf_St → Option (Int32 × kf_St)) (v0 : Nat) (v1 : Int32) (v2 : Int32) (σ : kf_St) : Option (Int32 × kf_St) :=
  kf_lt (v2 + 1) fun v2_1 =>
  rec12 v0 v1 v2_1 σ
set_option maxRecDepth 100000 in
set_option maxHeartbeats 4000000 in
theorem b_X12_named_49 {X : kf_X} {G : kf_G} {rec12 : Nat → Int32 → Int32 → kf_St → Option (Int32 × kf_St)} {q : (Int32 × kf_St)} (E : kf_ok X G cX12_named RX12 3 (some .int) (4)) (hty : kf_wt G) (hrec12 : ∀ (v0 : Nat) (v1 : Int32) (v2 : Int32) (k_v0 : kf_kd G v0 = 13) (σ : kf_St), rec12 v0 v1 v2 σ = some q → kf_WA X G 3 (kf_Q X G (some (.int q.1)) q.2) 12 [(0, .ref (kf_ad G v0)), (1, .int v1), (2, .int v2)] [] σ) (v0 : Nat) (v1 : Int32) (v2 : Int32) (k_v0 : kf_kd G v0 = 13) (σ : kf_St) (h : f_X12_named_49 rec12 v0 v1 v2 σ = some q) : kf_WA X G 3 (kf_Q X G (some (.int q.1)) q.2) 49 [(0, .ref (kf_ad G v0)), (1, .int v1), (2, .int v2)] [] σ := by
  unfold f_X12_named_49 at h
  obtain ⟨v2_1, ev2_1, h⟩ := kf_lte h
  refine wa_iinc (lv' := [(2, .int v2_1), (0, .ref (kf_ad G v0)), (1, .int v1)]) v2_1 2 rfl (kf_inc ic_1 ev2_1) (by decide) rfl E d_X12_named_49 ?_
  refine wa_goto E d_X12_named_52 ?_
  refine wa_sub [1, 2, 0] rfl ?_
  exact hrec12 v0 v1 v2_1 k_v0 σ h
def f_X12_named_12_s (rec12 : Nat → Int32 → Int32 → kf_St → Option (Int32 × kf_St)) (v0 : Nat) (v1 : Int32) (v2 : Int32) (σ : kf_St) : Option (Int32 × kf_St) :=
  if (σ.1 v0 20) ≤ v2 then
    some (v1, σ)
  else
    if (σ.1 v0 13) = 0 then
      if kf_ix v2 (kf_ln (kf_rf v0 21)) = true then
      if kf_ix v1 (kf_ln (kf_rf v0 8)) = true then
      if (lg_cmp (σ.2 (kf_rf v0 21) (Int32.toNatClampNeg v2)) (σ.2 (kf_rf v0 8) (Int32.toNatClampNeg v1))) = 0 then
        (f_X12_wrong v0 3 v1 σ).bind fun q_6 =>
        f_X12_named_49 rec12 v0 v1 v2 q_6
      else
        f_X12_named_49 rec12 v0 v1 v2 σ
      else none
      else none
    else
      some (v1, σ)
def f_X12_named_12 : Nat → Nat → Int32 → Int32 → kf_St → Option (Int32 × kf_St)
  | 0, _, _, _, _ => none
  | n + 1, v0, v1, v2, σ => f_X12_named_12_s (f_X12_named_12 n) v0 v1 v2 σ
set_option maxRecDepth 100000 in
set_option maxHeartbeats 4000000 in
theorem b_X12_named_12_s {X : kf_X} {G : kf_G} (rec12 : Nat → Int32 → Int32 → kf_St → Option (Int32 × kf_St)) {q : (Int32 × kf_St)} (E : kf_ok X G cX12_named RX12 3 (some .int) (4)) (hty : kf_wt G) (hrec12 : ∀ (v0 : Nat) (v1 : Int32) (v2 : Int32) (k_v0 : kf_kd G v0 = 13) (σ : kf_St), rec12 v0 v1 v2 σ = some q → kf_WA X G 3 (kf_Q X G (some (.int q.1)) q.2) 12 [(0, .ref (kf_ad G v0)), (1, .int v1), (2, .int v2)] [] σ) (v0 : Nat) (v1 : Int32) (v2 : Int32) (k_v0 : kf_kd G v0 = 13) (σ : kf_St) (h : f_X12_named_12_s rec12 v0 v1 v2 σ = some q) : kf_WA X G 3 (kf_Q X G (some (.int q.1)) q.2) 12 [(0, .ref (kf_ad G v0)), (1, .int v1), (2, .int v2)] [] σ := by
  unfold f_X12_named_12_s at h
  refine wa_iload_n 2 rfl E d_X12_named_12 ?_
  refine wa_aload_n 0 rfl E d_X12_named_13 ?_
  refine wa_getI fl_X12_239 k_v0 rfl E d_X12_named_14 ?_
  refine wa_icmp_ge E d_X12_named_17 (fun c_1 => ?_) (fun c_1 => ?_)
  · replace h := kf_ift c_1 h
    refine wa_iload_n 1 rfl E d_X12_named_55 ?_
    cases h
    exact wa_iret E d_X12_named_56
  · replace h := kf_iff c_1 h
    refine wa_aload_n 0 rfl E d_X12_named_20 ?_
    refine wa_getI fl_X12_203 k_v0 rfl E d_X12_named_21 ?_
    refine wa_if_ne E d_X12_named_24 (fun c_2 => ?_) (fun c_2 => ?_)
    · replace h := kf_iff c_2 h
      refine wa_iload_n 1 rfl E d_X12_named_55 ?_
      cases h
      exact wa_iret E d_X12_named_56
    · replace h := kf_ift c_2 h
      refine wa_aload_n 0 rfl E d_X12_named_27 ?_
      refine wa_getR fl_X12_40 k_v0 rfl E d_X12_named_28 ?_
      refine wa_iload_n 2 rfl E d_X12_named_31 ?_
      obtain ⟨g_3, h⟩ := kf_gd h
      refine wa_lald (kf_wtf hty 21 50 k_v0 (by decide) rfl) g_3 E d_X12_named_32 ?_
      refine wa_aload_n 0 rfl E d_X12_named_33 ?_
      refine wa_getR fl_X12_30 k_v0 rfl E d_X12_named_34 ?_
      refine wa_iload_n 1 rfl E d_X12_named_37 ?_
      obtain ⟨g_4, h⟩ := kf_gd h
      refine wa_lald (kf_wtf hty 8 50 k_v0 (by decide) rfl) g_4 E d_X12_named_38 ?_
      refine wa_lcmp E d_X12_named_39 ?_
      refine wa_if_ne E d_X12_named_40 (fun c_5 => ?_) (fun c_5 => ?_)
      · replace h := kf_iff c_5 h
        exact b_X12_named_49 E hty hrec12 v0 v1 v2 k_v0 σ h
      · replace h := kf_ift c_5 h
        refine wa_aload_n 0 rfl E d_X12_named_43 ?_
        refine wa_iconst 3 ic_3 E d_X12_named_44 ?_
        refine wa_iload_n 1 rfl E d_X12_named_45 ?_
        obtain ⟨q_6, hq_6, h⟩ := kf_bd h
        refine wa_callV (st2 := []) (c_X12_wrong hty v0 3 v1 k_v0 σ hq_6) mv_X12_wrong ml_X12_284 k_v0 rfl (Nat.le_of_ble_eq_true rfl) rfl (Nat.le_of_ble_eq_true rfl) E d_X12_named_46 rfl ?_
        exact b_X12_named_49 E hty hrec12 v0 v1 v2 k_v0 q_6 h
theorem b_X12_named_12 {X : kf_X} {G : kf_G} {q : (Int32 × kf_St)} (E : kf_ok X G cX12_named RX12 3 (some .int) (4)) (hty : kf_wt G) : ∀ (N : Nat) (v0 : Nat) (v1 : Int32) (v2 : Int32) (k_v0 : kf_kd G v0 = 13) (σ : kf_St) (_ : f_X12_named_12 N v0 v1 v2 σ = some q), kf_WA X G 3 (kf_Q X G (some (.int q.1)) q.2) 12 [(0, .ref (kf_ad G v0)), (1, .int v1), (2, .int v2)] [] σ
  | 0, _, _, _, _, _, h => by cases h
  | N + 1, v0, v1, v2, k_v0, σ, h => b_X12_named_12_s _ E hty (b_X12_named_12 E hty N) v0 v1 v2 k_v0 σ h
def f_X12_named (v0 : Nat) (σ : kf_St) : Option (Int32 × kf_St) :=
  kf_lt ((σ.1 v0 11)) fun v1_1 =>
  (f_X12_must v0 1 σ).bind fun q_2 =>
  f_X12_named_12 kf_F v0 v1_1 0 q_2
set_option maxRecDepth 100000 in
set_option maxHeartbeats 4000000 in
theorem c_X12_named {G : kf_G} (hty : kf_wt G) (v0 : Nat) (k_v0 : kf_kd G v0 = 13) (σ : kf_St) {q : (Int32 × kf_St)} (h : f_X12_named v0 σ = some q) : kf_Ct (4) yX12_named cX12_named 3 (some .int) G [.ref (kf_ad G v0)] σ (some (.int q.1)) q.2 := by
  refine kf_Ct.of hty.1 (lv := [(0, .ref (kf_ad G v0))]) (by decide +kernel) rfl (Nat.le_of_ble_eq_true rfl) (fun X E => ?_)
  unfold f_X12_named at h
  refine wa_aload_n 0 rfl E d_X12_named_0 ?_
  refine wa_getI fl_X12_206 k_v0 rfl E d_X12_named_1 ?_
  obtain ⟨v1_1, ev1_1, h⟩ := kf_lte h
  refine wa_topi ev1_1 ?_
  refine wa_istore_n (lv' := [(1, .int v1_1), (0, .ref (kf_ad G v0))]) rfl (by decide) rfl E d_X12_named_4 ?_
  refine wa_aload_n 1 rfl E d_X12_named_5 ?_
  refine wa_iconst 1 ic_1 E d_X12_named_6 ?_
  obtain ⟨q_2, hq_2, h⟩ := kf_bd h
  refine wa_callV (st2 := []) (c_X12_must hty v0 1 k_v0 σ hq_2) mv_X12_must ml_X12_261 k_v0 rfl (Nat.le_of_ble_eq_true rfl) rfl (Nat.le_of_ble_eq_true rfl) E d_X12_named_7 rfl ?_
  refine wa_iconst 0 ic_0 E d_X12_named_10 ?_
  refine wa_istore_n (lv' := [(2, .int 0), (1, .int v1_1), (0, .ref (kf_ad G v0))]) rfl (by decide) rfl E d_X12_named_11 ?_
  refine wa_sub [2, 1, 0] rfl ?_
  exact b_X12_named_12 E hty kf_F v0 v1_1 0 k_v0 q_2 h
/-! X12_bounded -/
theorem d_X12_bounded_0 : kf_dq cX12_bounded 0 1 1 (.aload_n 0) := ⟨by decide +kernel, rfl⟩
theorem d_X12_bounded_1 : kf_dq cX12_bounded 1 4 3 (.getfield 203) := ⟨by decide +kernel, rfl⟩
theorem d_X12_bounded_4 : kf_dj cX12_bounded 4 7 15 (.ifCond .gt) := ⟨11, by decide +kernel, rfl, by decide⟩
theorem d_X12_bounded_7 : kf_dq cX12_bounded 7 8 1 (.aload_n 0) := ⟨by decide +kernel, rfl⟩
theorem d_X12_bounded_8 : kf_dq cX12_bounded 8 9 1 (.iconst 2) := ⟨by decide +kernel, rfl⟩
theorem d_X12_bounded_9 : kf_dq cX12_bounded 9 12 3 (.invokevirtual 221) := ⟨by decide +kernel, rfl⟩
theorem d_X12_bounded_12 : kf_dj cX12_bounded 12 15 22 (.ifCond .ne) := ⟨10, by decide +kernel, rfl, by decide⟩
theorem d_X12_bounded_15 : kf_dq cX12_bounded 15 16 1 (.aload_n 0) := ⟨by decide +kernel, rfl⟩
theorem d_X12_bounded_16 : kf_dq cX12_bounded 16 17 1 (.iconst 1) := ⟨by decide +kernel, rfl⟩
theorem d_X12_bounded_17 : kf_dq cX12_bounded 17 20 3 (.invokevirtual 218) := ⟨by decide +kernel, rfl⟩
theorem d_X12_bounded_20 : kf_dq cX12_bounded 20 21 1 (.iload_n 1) := ⟨by decide +kernel, rfl⟩
theorem d_X12_bounded_21 : kf_dq cX12_bounded 21 22 1 (.ireturn) := ⟨by decide +kernel, rfl⟩
theorem d_X12_bounded_22 : kf_dq cX12_bounded 22 23 1 (.aload_n 0) := ⟨by decide +kernel, rfl⟩
theorem d_X12_bounded_23 : kf_dq cX12_bounded 23 26 3 (.getfield 27) := ⟨by decide +kernel, rfl⟩
theorem d_X12_bounded_26 : kf_dq cX12_bounded 26 27 1 (.aload_n 0) := ⟨by decide +kernel, rfl⟩
theorem d_X12_bounded_27 : kf_dq cX12_bounded 27 30 3 (.getfield 206) := ⟨by decide +kernel, rfl⟩
theorem d_X12_bounded_30 : kf_dq cX12_bounded 30 31 1 (.iaload) := ⟨by decide +kernel, rfl⟩
theorem d_X12_bounded_31 : kf_dq cX12_bounded 31 32 1 (.istore_n 3) := ⟨by decide +kernel, rfl⟩
theorem d_X12_bounded_32 : kf_dq cX12_bounded 32 33 1 (.iload_n 3) := ⟨by decide +kernel, rfl⟩
theorem d_X12_bounded_33 : kf_dq cX12_bounded 33 34 1 (.iload_n 1) := ⟨by decide +kernel, rfl⟩
theorem d_X12_bounded_34 : kf_dj cX12_bounded 34 37 42 (.if_icmp .lt) := ⟨8, by decide +kernel, rfl, by decide⟩
theorem d_X12_bounded_37 : kf_dq cX12_bounded 37 38 1 (.iload_n 3) := ⟨by decide +kernel, rfl⟩
theorem d_X12_bounded_38 : kf_dq cX12_bounded 38 39 1 (.iload_n 2) := ⟨by decide +kernel, rfl⟩
theorem d_X12_bounded_39 : kf_dj cX12_bounded 39 42 51 (.if_icmp .le) := ⟨12, by decide +kernel, rfl, by decide⟩
theorem d_X12_bounded_42 : kf_dq cX12_bounded 42 43 1 (.aload_n 0) := ⟨by decide +kernel, rfl⟩
theorem d_X12_bounded_43 : kf_dq cX12_bounded 43 44 1 (.iconst 5) := ⟨by decide +kernel, rfl⟩
theorem d_X12_bounded_44 : kf_dq cX12_bounded 44 45 1 (.aload_n 0) := ⟨by decide +kernel, rfl⟩
theorem d_X12_bounded_45 : kf_dq cX12_bounded 45 48 3 (.getfield 206) := ⟨by decide +kernel, rfl⟩
theorem d_X12_bounded_48 : kf_dq cX12_bounded 48 51 3 (.invokevirtual 284) := ⟨by decide +kernel, rfl⟩
theorem d_X12_bounded_51 : kf_dq cX12_bounded 51 52 1 (.aload_n 0) := ⟨by decide +kernel, rfl⟩
theorem d_X12_bounded_52 : kf_dq cX12_bounded 52 55 3 (.invokevirtual 224) := ⟨by decide +kernel, rfl⟩
theorem d_X12_bounded_55 : kf_dq cX12_bounded 55 56 1 (.iload_n 3) := ⟨by decide +kernel, rfl⟩
theorem d_X12_bounded_56 : kf_dq cX12_bounded 56 57 1 (.ireturn) := ⟨by decide +kernel, rfl⟩
def f_X12_bounded_15 (v0 : Nat) (v1 : Int32) (σ : kf_St) : Option (Int32 × kf_St) :=
  (f_X12_fail v0 1 σ).bind fun q_1 =>
  some (v1, q_1)
set_option maxRecDepth 100000 in
set_option maxHeartbeats 4000000 in
theorem b_X12_bounded_15 {X : kf_X} {G : kf_G} {q : (Int32 × kf_St)} (E : kf_ok X G cX12_bounded RX12 4 (some .int) (3)) (hty : kf_wt G) (v0 : Nat) (v1 : Int32) (k_v0 : kf_kd G v0 = 13) (σ : kf_St) (h : f_X12_bounded_15 v0 v1 σ = some q) : kf_WA X G 4 (kf_Q X G (some (.int q.1)) q.2) 15 [(0, .ref (kf_ad G v0)), (1, .int v1)] [] σ := by
  unfold f_X12_bounded_15 at h
  refine wa_aload_n 0 rfl E d_X12_bounded_15 ?_
  refine wa_iconst 1 ic_1 E d_X12_bounded_16 ?_
  obtain ⟨q_1, hq_1, h⟩ := kf_bd h
  refine wa_callV (st2 := []) (c_X12_fail hty v0 1 k_v0 σ hq_1) mv_X12_fail ml_X12_218 k_v0 rfl (Nat.le_of_ble_eq_true rfl) rfl (Nat.le_of_ble_eq_true rfl) E d_X12_bounded_17 rfl ?_
  refine wa_iload_n 1 rfl E d_X12_bounded_20 ?_
  cases h
  exact wa_iret E d_X12_bounded_21
def f_X12_bounded_51 (v0 : Nat) (v3 : Int32) (σ : kf_St) : Option (Int32 × kf_St) :=
  (f_X12_goesOn v0 σ).bind fun q_1 =>
  some (v3, q_1)
set_option maxRecDepth 100000 in
set_option maxHeartbeats 4000000 in
theorem b_X12_bounded_51 {X : kf_X} {G : kf_G} {q : (Int32 × kf_St)} (E : kf_ok X G cX12_bounded RX12 4 (some .int) (3)) (hty : kf_wt G) (v0 : Nat) (v3 : Int32) (k_v0 : kf_kd G v0 = 13) (σ : kf_St) (h : f_X12_bounded_51 v0 v3 σ = some q) : kf_WA X G 4 (kf_Q X G (some (.int q.1)) q.2) 51 [(0, .ref (kf_ad G v0)), (3, .int v3)] [] σ := by
  unfold f_X12_bounded_51 at h
  refine wa_aload_n 0 rfl E d_X12_bounded_51 ?_
  obtain ⟨q_1, hq_1, h⟩ := kf_bd h
  refine wa_callV (st2 := []) (c_X12_goesOn hty v0 k_v0 σ hq_1) mv_X12_goesOn ml_X12_224 k_v0 rfl (Nat.le_of_ble_eq_true rfl) rfl (Nat.le_of_ble_eq_true rfl) E d_X12_bounded_52 rfl ?_
  refine wa_iload_n 1 rfl E d_X12_bounded_55 ?_
  cases h
  exact wa_iret E d_X12_bounded_56
def f_X12_bounded_42 (v0 : Nat) (v3 : Int32) (σ : kf_St) : Option (Int32 × kf_St) :=
  (f_X12_wrong v0 5 (σ.1 v0 11) σ).bind fun q_1 =>
  f_X12_bounded_51 v0 v3 q_1
set_option maxRecDepth 100000 in
set_option maxHeartbeats 4000000 in
theorem b_X12_bounded_42 {X : kf_X} {G : kf_G} {q : (Int32 × kf_St)} (E : kf_ok X G cX12_bounded RX12 4 (some .int) (3)) (hty : kf_wt G) (v0 : Nat) (v3 : Int32) (k_v0 : kf_kd G v0 = 13) (σ : kf_St) (h : f_X12_bounded_42 v0 v3 σ = some q) : kf_WA X G 4 (kf_Q X G (some (.int q.1)) q.2) 42 [(0, .ref (kf_ad G v0)), (3, .int v3)] [] σ := by
  unfold f_X12_bounded_42 at h
  refine wa_aload_n 0 rfl E d_X12_bounded_42 ?_
  refine wa_iconst 5 ic_5 E d_X12_bounded_43 ?_
  refine wa_aload_n 0 rfl E d_X12_bounded_44 ?_
  refine wa_getI fl_X12_206 k_v0 rfl E d_X12_bounded_45 ?_
  obtain ⟨q_1, hq_1, h⟩ := kf_bd h
  refine wa_callV (st2 := []) (c_X12_wrong hty v0 5 (σ.1 v0 11) k_v0 σ hq_1) mv_X12_wrong ml_X12_284 k_v0 rfl (Nat.le_of_ble_eq_true rfl) rfl (Nat.le_of_ble_eq_true rfl) E d_X12_bounded_48 rfl ?_
  exact b_X12_bounded_51 E hty v0 v3 k_v0 q_1 h
def f_X12_bounded (v0 : Nat) (v1 : Int32) (v2 : Int32) (σ : kf_St) : Option (Int32 × kf_St) :=
  if 0 < (σ.1 v0 13) then
    f_X12_bounded_15 v0 v1 σ
  else
    (f_X12_is v0 2 σ).bind fun q_2 =>
    if q_2.1 = 0 then
      f_X12_bounded_15 v0 v1 q_2.2
    else
      if kf_ix (q_2.2.1 v0 11) (kf_ln (kf_rf v0 7)) = true then
      kf_lt ((q_2.2.1 (kf_rf v0 7) (Int32.toNatClampNeg (q_2.2.1 v0 11)))) fun v3_5 =>
      if v3_5 < v1 then
        f_X12_bounded_42 v0 v3_5 q_2.2
      else
        if v3_5 ≤ v2 then
          f_X12_bounded_51 v0 v3_5 q_2.2
        else
          f_X12_bounded_42 v0 v3_5 q_2.2
      else none
set_option maxRecDepth 100000 in
set_option maxHeartbeats 4000000 in
theorem c_X12_bounded {G : kf_G} (hty : kf_wt G) (v0 : Nat) (v1 : Int32) (v2 : Int32) (k_v0 : kf_kd G v0 = 13) (σ : kf_St) {q : (Int32 × kf_St)} (h : f_X12_bounded v0 v1 v2 σ = some q) : kf_Ct (3) yX12_bounded cX12_bounded 4 (some .int) G [.ref (kf_ad G v0), .int v1, .int v2] σ (some (.int q.1)) q.2 := by
  refine kf_Ct.of hty.1 (lv := [(0, .ref (kf_ad G v0)), (1, .int v1), (2, .int v2)]) (by decide +kernel) rfl (Nat.le_of_ble_eq_true rfl) (fun X E => ?_)
  unfold f_X12_bounded at h
  refine wa_aload_n 0 rfl E d_X12_bounded_0 ?_
  refine wa_getI fl_X12_203 k_v0 rfl E d_X12_bounded_1 ?_
  refine wa_if_gt E d_X12_bounded_4 (fun c_1 => ?_) (fun c_1 => ?_)
  · replace h := kf_ift c_1 h
    refine wa_sub [0, 1] rfl ?_
    exact b_X12_bounded_15 E hty v0 v1 k_v0 σ h
  · replace h := kf_iff c_1 h
    refine wa_aload_n 0 rfl E d_X12_bounded_7 ?_
    refine wa_iconst 2 ic_2 E d_X12_bounded_8 ?_
    obtain ⟨q_2, hq_2, h⟩ := kf_bd h
    refine wa_callV (st2 := [.int q_2.1]) (c_X12_is hty v0 2 k_v0 σ hq_2) mv_X12_is ml_X12_221 k_v0 rfl (Nat.le_of_ble_eq_true rfl) rfl (Nat.le_of_ble_eq_true rfl) E d_X12_bounded_9 rfl ?_
    refine wa_if_ne E d_X12_bounded_12 (fun c_3 => ?_) (fun c_3 => ?_)
    · replace h := kf_iff c_3 h
      refine wa_aload_n 0 rfl E d_X12_bounded_22 ?_
      refine wa_getR fl_X12_27 k_v0 rfl E d_X12_bounded_23 ?_
      refine wa_aload_n 0 rfl E d_X12_bounded_26 ?_
      refine wa_getI fl_X12_206 k_v0 rfl E d_X12_bounded_27 ?_
      obtain ⟨g_4, h⟩ := kf_gd h
      refine wa_iald (kf_wtf hty 7 49 k_v0 (by decide) rfl) g_4 E d_X12_bounded_30 ?_
      obtain ⟨v3_5, ev3_5, h⟩ := kf_lte h
      refine wa_topi ev3_5 ?_
      refine wa_istore_n (lv' := [(3, .int v3_5), (0, .ref (kf_ad G v0)), (1, .int v1), (2, .int v2)]) rfl (by decide) rfl E d_X12_bounded_31 ?_
      refine wa_iload_n 0 rfl E d_X12_bounded_32 ?_
      refine wa_iload_n 2 rfl E d_X12_bounded_33 ?_
      refine wa_icmp_lt E d_X12_bounded_34 (fun c_6 => ?_) (fun c_6 => ?_)
      · replace h := kf_ift c_6 h
        refine wa_sub [1, 0] rfl ?_
        exact b_X12_bounded_42 E hty v0 v3_5 k_v0 q_2.2 h
      · replace h := kf_iff c_6 h
        refine wa_iload_n 0 rfl E d_X12_bounded_37 ?_
        refine wa_iload_n 3 rfl E d_X12_bounded_38 ?_
        refine wa_icmp_le E d_X12_bounded_39 (fun c_7 => ?_) (fun c_7 => ?_)
        · replace h := kf_ift c_7 h
          refine wa_sub [1, 0] rfl ?_
          exact b_X12_bounded_51 E hty v0 v3_5 k_v0 q_2.2 h
        · replace h := kf_iff c_7 h
          refine wa_sub [1, 0] rfl ?_
          exact b_X12_bounded_42 E hty v0 v3_5 k_v0 q_2.2 h
    · replace h := kf_ift c_3 h
      refine wa_sub [0, 1] rfl ?_
      exact b_X12_bounded_15 E hty v0 v1 k_v0 q_2.2 h
/-! X12_endsName -/
theorem d_X12_endsName_0 : kf_dq cX12_endsName 0 1 1 (.aload_n 0) := ⟨by decide +kernel, rfl⟩
theorem d_X12_endsName_1 : kf_dq cX12_endsName 1 2 1 (.iconst 4) := ⟨by decide +kernel, rfl⟩
theorem d_X12_endsName_2 : kf_dq cX12_endsName 2 5 3 (.invokevirtual 261) := ⟨by decide +kernel, rfl⟩
theorem d_X12_endsName_5 : kf_dq cX12_endsName 5 6 1 (.aload_n 0) := ⟨by decide +kernel, rfl⟩
theorem d_X12_endsName_6 : kf_dq cX12_endsName 6 9 3 (.getfield 203) := ⟨by decide +kernel, rfl⟩
theorem d_X12_endsName_9 : kf_dj cX12_endsName 9 12 13 (.ifCond .le) := ⟨4, by decide +kernel, rfl, by decide⟩
theorem d_X12_endsName_12 : kf_dq cX12_endsName 12 13 1 (.return_) := ⟨by decide +kernel, rfl⟩
theorem d_X12_endsName_13 : kf_dq cX12_endsName 13 14 1 (.aload_n 0) := ⟨by decide +kernel, rfl⟩
theorem d_X12_endsName_14 : kf_dq cX12_endsName 14 17 3 (.getfield 40) := ⟨by decide +kernel, rfl⟩
theorem d_X12_endsName_17 : kf_dq cX12_endsName 17 18 1 (.aload_n 0) := ⟨by decide +kernel, rfl⟩
theorem d_X12_endsName_18 : kf_dq cX12_endsName 18 21 3 (.getfield 239) := ⟨by decide +kernel, rfl⟩
theorem d_X12_endsName_21 : kf_dq cX12_endsName 21 22 1 (.aload_n 0) := ⟨by decide +kernel, rfl⟩
theorem d_X12_endsName_22 : kf_dq cX12_endsName 22 25 3 (.getfield 30) := ⟨by decide +kernel, rfl⟩
theorem d_X12_endsName_25 : kf_dq cX12_endsName 25 26 1 (.iload_n 1) := ⟨by decide +kernel, rfl⟩
theorem d_X12_endsName_26 : kf_dq cX12_endsName 26 27 1 (.laload) := ⟨by decide +kernel, rfl⟩
theorem d_X12_endsName_27 : kf_dq cX12_endsName 27 28 1 (.lastore) := ⟨by decide +kernel, rfl⟩
theorem d_X12_endsName_28 : kf_dq cX12_endsName 28 29 1 (.aload_n 0) := ⟨by decide +kernel, rfl⟩
theorem d_X12_endsName_29 : kf_dq cX12_endsName 29 32 3 (.getfield 43) := ⟨by decide +kernel, rfl⟩
theorem d_X12_endsName_32 : kf_dq cX12_endsName 32 33 1 (.aload_n 0) := ⟨by decide +kernel, rfl⟩
theorem d_X12_endsName_33 : kf_dq cX12_endsName 33 36 3 (.getfield 239) := ⟨by decide +kernel, rfl⟩
theorem d_X12_endsName_36 : kf_dq cX12_endsName 36 37 1 (.iload_n 2) := ⟨by decide +kernel, rfl⟩
theorem d_X12_endsName_37 : kf_dq cX12_endsName 37 38 1 (.iastore) := ⟨by decide +kernel, rfl⟩
theorem d_X12_endsName_38 : kf_dq cX12_endsName 38 39 1 (.aload_n 0) := ⟨by decide +kernel, rfl⟩
theorem d_X12_endsName_39 : kf_dq cX12_endsName 39 40 1 (.dup) := ⟨by decide +kernel, rfl⟩
theorem d_X12_endsName_40 : kf_dq cX12_endsName 40 43 3 (.getfield 239) := ⟨by decide +kernel, rfl⟩
theorem d_X12_endsName_43 : kf_dq cX12_endsName 43 44 1 (.iconst 1) := ⟨by decide +kernel, rfl⟩
theorem d_X12_endsName_44 : kf_dq cX12_endsName 44 45 1 (.iadd) := ⟨by decide +kernel, rfl⟩
theorem d_X12_endsName_45 : kf_dq cX12_endsName 45 48 3 (.putfield 239) := ⟨by decide +kernel, rfl⟩
theorem d_X12_endsName_48 : kf_dq cX12_endsName 48 49 1 (.return_) := ⟨by decide +kernel, rfl⟩
def f_X12_endsName (v0 : Nat) (v1 : Int32) (v2 : Int32) (σ : kf_St) : Option kf_St :=
  (f_X12_must v0 4 σ).bind fun q_1 =>
  if (q_1.1 v0 13) ≤ 0 then
    if kf_ix v1 (kf_ln (kf_rf v0 8)) = true then
    if kf_ix (q_1.1 v0 20) (kf_ln (kf_rf v0 21)) = true then
    kf_lt (kf_wl q_1 (kf_rf v0 21) (Int32.toNatClampNeg (q_1.1 v0 20)) (q_1.2 (kf_rf v0 8) (Int32.toNatClampNeg v1))) fun σ_5 =>
    if kf_ix (σ_5.1 v0 20) (kf_ln (kf_rf v0 22)) = true then
    kf_lt (kf_wi σ_5 (kf_rf v0 22) (Int32.toNatClampNeg (σ_5.1 v0 20)) v2) fun σ_7 =>
    kf_lt (kf_wi σ_7 v0 20 ((σ_7.1 v0 20) + 1)) fun σ_8 =>
    some σ_8
    else none
    else none
    else none
  else
    some q_1
set_option maxRecDepth 100000 in
set_option maxHeartbeats 4000000 in
theorem c_X12_endsName {G : kf_G} (hty : kf_wt G) (v0 : Nat) (v1 : Int32) (v2 : Int32) (k_v0 : kf_kd G v0 = 13) (σ : kf_St) {q : kf_St} (h : f_X12_endsName v0 v1 v2 σ = some q) : kf_Ct (4) yX12_endsName cX12_endsName 3 none G [.ref (kf_ad G v0), .int v1, .int v2] σ none q := by
  refine kf_Ct.of hty.1 (lv := [(0, .ref (kf_ad G v0)), (1, .int v1), (2, .int v2)]) (by decide +kernel) rfl (Nat.le_of_ble_eq_true rfl) (fun X E => ?_)
  unfold f_X12_endsName at h
  refine wa_aload_n 0 rfl E d_X12_endsName_0 ?_
  refine wa_iconst 4 ic_4 E d_X12_endsName_1 ?_
  obtain ⟨q_1, hq_1, h⟩ := kf_bd h
  refine wa_callV (st2 := []) (c_X12_must hty v0 4 k_v0 σ hq_1) mv_X12_must ml_X12_261 k_v0 rfl (Nat.le_of_ble_eq_true rfl) rfl (Nat.le_of_ble_eq_true rfl) E d_X12_endsName_2 rfl ?_
  refine wa_aload_n 0 rfl E d_X12_endsName_5 ?_
  refine wa_getI fl_X12_203 k_v0 rfl E d_X12_endsName_6 ?_
  refine wa_if_le E d_X12_endsName_9 (fun c_2 => ?_) (fun c_2 => ?_)
  · replace h := kf_ift c_2 h
    refine wa_aload_n 0 rfl E d_X12_endsName_13 ?_
    refine wa_getR fl_X12_40 k_v0 rfl E d_X12_endsName_14 ?_
    refine wa_aload_n 0 rfl E d_X12_endsName_17 ?_
    refine wa_getI fl_X12_239 k_v0 rfl E d_X12_endsName_18 ?_
    refine wa_aload_n 0 rfl E d_X12_endsName_21 ?_
    refine wa_getR fl_X12_30 k_v0 rfl E d_X12_endsName_22 ?_
    refine wa_iload_n 1 rfl E d_X12_endsName_25 ?_
    obtain ⟨g_3, h⟩ := kf_gd h
    refine wa_lald (kf_wtf hty 8 50 k_v0 (by decide) rfl) g_3 E d_X12_endsName_26 ?_
    obtain ⟨g_4, h⟩ := kf_gd h
    obtain ⟨σ_5, eσ_5, h⟩ := kf_lte h
    refine wa_last (kf_wtf hty 21 50 k_v0 (by decide) rfl) g_4 E d_X12_endsName_27 eσ_5 ?_
    refine wa_aload_n 0 rfl E d_X12_endsName_28 ?_
    refine wa_getR fl_X12_43 k_v0 rfl E d_X12_endsName_29 ?_
    refine wa_aload_n 0 rfl E d_X12_endsName_32 ?_
    refine wa_getI fl_X12_239 k_v0 rfl E d_X12_endsName_33 ?_
    refine wa_iload_n 2 rfl E d_X12_endsName_36 ?_
    obtain ⟨g_6, h⟩ := kf_gd h
    obtain ⟨σ_7, eσ_7, h⟩ := kf_lte h
    refine wa_iast (kf_wtf hty 22 49 k_v0 (by decide) rfl) g_6 E d_X12_endsName_37 eσ_7 ?_
    refine wa_aload_n 0 rfl E d_X12_endsName_38 ?_
    refine wa_dup rfl E d_X12_endsName_39 ?_
    refine wa_getI fl_X12_239 k_v0 rfl E d_X12_endsName_40 ?_
    refine wa_iconst 1 ic_1 E d_X12_endsName_43 ?_
    refine wa_iadd E d_X12_endsName_44 ?_
    obtain ⟨σ_8, eσ_8, h⟩ := kf_lte h
    refine wa_putI fl_X12_239 fp_12_20 k_v0 rfl (by decide) rfl rfl E d_X12_endsName_45 eσ_8 ?_
    cases h
    exact wa_vret E d_X12_endsName_48
  · replace h := kf_iff c_2 h
    cases h
    exact wa_vret E d_X12_endsName_12
/-! X12_known -/
theorem d_X12_known_0 : kf_dq cX12_known 0 1 1 (.aload_n 0) := ⟨by decide +kernel, rfl⟩
theorem d_X12_known_1 : kf_dq cX12_known 1 4 3 (.getfield 206) := ⟨by decide +kernel, rfl⟩
theorem d_X12_known_4 : kf_dq cX12_known 4 5 1 (.istore_n 2) := ⟨by decide +kernel, rfl⟩
theorem d_X12_known_5 : kf_dq cX12_known 5 6 1 (.aload_n 0) := ⟨by decide +kernel, rfl⟩
theorem d_X12_known_6 : kf_dq cX12_known 6 7 1 (.iconst 1) := ⟨by decide +kernel, rfl⟩
theorem d_X12_known_7 : kf_dq cX12_known 7 10 3 (.invokevirtual 261) := ⟨by decide +kernel, rfl⟩
theorem d_X12_known_10 : kf_dq cX12_known 10 11 1 (.aload_n 0) := ⟨by decide +kernel, rfl⟩
theorem d_X12_known_11 : kf_dq cX12_known 11 14 3 (.getfield 203) := ⟨by decide +kernel, rfl⟩
theorem d_X12_known_14 : kf_dj cX12_known 14 17 19 (.ifCond .le) := ⟨5, by decide +kernel, rfl, by decide⟩
theorem d_X12_known_17 : kf_dq cX12_known 17 18 1 (.iconst (-1)) := ⟨by decide +kernel, rfl⟩
theorem d_X12_known_18 : kf_dq cX12_known 18 19 1 (.ireturn) := ⟨by decide +kernel, rfl⟩
theorem d_X12_known_19 : kf_dq cX12_known 19 20 1 (.iconst 0) := ⟨by decide +kernel, rfl⟩
theorem d_X12_known_20 : kf_dq cX12_known 20 21 1 (.istore_n 3) := ⟨by decide +kernel, rfl⟩
theorem d_X12_known_21 : kf_dq cX12_known 21 22 1 (.iload_n 3) := ⟨by decide +kernel, rfl⟩
theorem d_X12_known_22 : kf_dq cX12_known 22 23 1 (.aload_n 0) := ⟨by decide +kernel, rfl⟩
theorem d_X12_known_23 : kf_dq cX12_known 23 26 3 (.getfield 239) := ⟨by decide +kernel, rfl⟩
theorem d_X12_known_26 : kf_dj cX12_known 26 29 83 (.if_icmp .ge) := ⟨57, by decide +kernel, rfl, by decide⟩
theorem d_X12_known_29 : kf_dq cX12_known 29 30 1 (.aload_n 0) := ⟨by decide +kernel, rfl⟩
theorem d_X12_known_30 : kf_dq cX12_known 30 33 3 (.getfield 40) := ⟨by decide +kernel, rfl⟩
theorem d_X12_known_33 : kf_dq cX12_known 33 34 1 (.iload_n 3) := ⟨by decide +kernel, rfl⟩
theorem d_X12_known_34 : kf_dq cX12_known 34 35 1 (.laload) := ⟨by decide +kernel, rfl⟩
theorem d_X12_known_35 : kf_dq cX12_known 35 36 1 (.aload_n 0) := ⟨by decide +kernel, rfl⟩
theorem d_X12_known_36 : kf_dq cX12_known 36 39 3 (.getfield 30) := ⟨by decide +kernel, rfl⟩
theorem d_X12_known_39 : kf_dq cX12_known 39 40 1 (.iload_n 2) := ⟨by decide +kernel, rfl⟩
theorem d_X12_known_40 : kf_dq cX12_known 40 41 1 (.laload) := ⟨by decide +kernel, rfl⟩
theorem d_X12_known_41 : kf_dq cX12_known 41 42 1 (.lcmp) := ⟨by decide +kernel, rfl⟩
theorem d_X12_known_42 : kf_dj cX12_known 42 45 77 (.ifCond .ne) := ⟨35, by decide +kernel, rfl, by decide⟩
theorem d_X12_known_45 : kf_dq cX12_known 45 46 1 (.aload_n 0) := ⟨by decide +kernel, rfl⟩
theorem d_X12_known_46 : kf_dq cX12_known 46 49 3 (.getfield 43) := ⟨by decide +kernel, rfl⟩
theorem d_X12_known_49 : kf_dq cX12_known 49 50 1 (.iload_n 3) := ⟨by decide +kernel, rfl⟩
theorem d_X12_known_50 : kf_dq cX12_known 50 51 1 (.iaload) := ⟨by decide +kernel, rfl⟩
theorem d_X12_known_51 : kf_dq cX12_known 51 52 1 (.iload_n 1) := ⟨by decide +kernel, rfl⟩
theorem d_X12_known_52 : kf_dj cX12_known 52 55 77 (.if_icmp .lt) := ⟨25, by decide +kernel, rfl, by decide⟩
theorem d_X12_known_55 : kf_dq cX12_known 55 56 1 (.aload_n 0) := ⟨by decide +kernel, rfl⟩
theorem d_X12_known_56 : kf_dq cX12_known 56 59 3 (.getfield 43) := ⟨by decide +kernel, rfl⟩
theorem d_X12_known_59 : kf_dq cX12_known 59 60 1 (.iload_n 3) := ⟨by decide +kernel, rfl⟩
theorem d_X12_known_60 : kf_dq cX12_known 60 61 1 (.iaload) := ⟨by decide +kernel, rfl⟩
theorem d_X12_known_61 : kf_dq cX12_known 61 62 1 (.iload_n 1) := ⟨by decide +kernel, rfl⟩
theorem d_X12_known_62 : kf_dq cX12_known 62 64 2 (.bipush 10) := ⟨by decide +kernel, rfl⟩
theorem d_X12_known_64 : kf_dq cX12_known 64 65 1 (.iadd) := ⟨by decide +kernel, rfl⟩
theorem d_X12_known_65 : kf_dj cX12_known 65 68 77 (.if_icmp .ge) := ⟨12, by decide +kernel, rfl, by decide⟩
theorem d_X12_known_68 : kf_dq cX12_known 68 69 1 (.aload_n 0) := ⟨by decide +kernel, rfl⟩
theorem d_X12_known_69 : kf_dq cX12_known 69 72 3 (.getfield 43) := ⟨by decide +kernel, rfl⟩
theorem d_X12_known_72 : kf_dq cX12_known 72 73 1 (.iload_n 3) := ⟨by decide +kernel, rfl⟩
theorem d_X12_known_73 : kf_dq cX12_known 73 74 1 (.iaload) := ⟨by decide +kernel, rfl⟩
theorem d_X12_known_74 : kf_dq cX12_known 74 75 1 (.iload_n 1) := ⟨by decide +kernel, rfl⟩
theorem d_X12_known_75 : kf_dq cX12_known 75 76 1 (.isub) := ⟨by decide +kernel, rfl⟩
theorem d_X12_known_76 : kf_dq cX12_known 76 77 1 (.ireturn) := ⟨by decide +kernel, rfl⟩
theorem d_X12_known_77 : kf_dq cX12_known 77 80 3 (.iinc 3 1) := ⟨by decide +kernel, rfl⟩
theorem d_X12_known_80 : kf_dj cX12_known 80 83 21 .goto := ⟨(-59), by decide +kernel, rfl, by decide⟩
theorem d_X12_known_83 : kf_dq cX12_known 83 84 1 (.aload_n 0) := ⟨by decide +kernel, rfl⟩
theorem d_X12_known_84 : kf_dq cX12_known 84 85 1 (.iconst 4) := ⟨by decide +kernel, rfl⟩
theorem d_X12_known_85 : kf_dq cX12_known 85 86 1 (.iload_n 2) := ⟨by decide +kernel, rfl⟩
theorem d_X12_known_86 : kf_dq cX12_known 86 89 3 (.invokevirtual 284) := ⟨by decide +kernel, rfl⟩
theorem d_X12_known_89 : kf_dq cX12_known 89 90 1 (.iconst (-1)) := ⟨by decide +kernel, rfl⟩
theorem d_X12_known_90 : kf_dq cX12_known 90 91 1 (.ireturn) := ⟨by decide +kernel, rfl⟩
def f_X12_known_77 (rec21 : Nat → Int32 → Int32 → Int32 → kf_St → Option (Int32 × kf_St)) (v0 : Nat) (v1 : Int32) (v2 : Int32) (v3 : Int32) (σ : kf_St) : Option (Int32 × kf_St) :=
  kf_lt (v3 + 1) fun v3_1 =>
  rec21 v0 v1 v2 v3_1 σ
set_option maxRecDepth 100000 in
set_option maxHeartbeats 4000000 in
theorem b_X12_known_77 {X : kf_X} {G : kf_G} {rec21 : Nat → Int32 → Int32 → Int32 → kf_St → Option (Int32 × kf_St)} {q : (Int32 × kf_St)} (E : kf_ok X G cX12_known RX12 4 (some .int) (4)) (hty : kf_wt G) (hrec21 : ∀ (v0 : Nat) (v1 : Int32) (v2 : Int32) (v3 : Int32) (k_v0 : kf_kd G v0 = 13) (σ : kf_St), rec21 v0 v1 v2 v3 σ = some q → kf_WA X G 4 (kf_Q X G (some (.int q.1)) q.2) 21 [(0, .ref (kf_ad G v0)), (1, .int v1), (2, .int v2), (3, .int v3)] [] σ) (v0 : Nat) (v1 : Int32) (v2 : Int32) (v3 : Int32) (k_v0 : kf_kd G v0 = 13) (σ : kf_St) (h : f_X12_known_77 rec21 v0 v1 v2 v3 σ = some q) : kf_WA X G 4 (kf_Q X G (some (.int q.1)) q.2) 77 [(0, .ref (kf_ad G v0)), (1, .int v1), (2, .int v2), (3, .int v3)] [] σ := by
  unfold f_X12_known_77 at h
  obtain ⟨v3_1, ev3_1, h⟩ := kf_lte h
  refine wa_iinc (lv' := [(3, .int v3_1), (0, .ref (kf_ad G v0)), (1, .int v1), (2, .int v2)]) v3_1 3 rfl (kf_inc ic_1 ev3_1) (by decide) rfl E d_X12_known_77 ?_
  refine wa_goto E d_X12_known_80 ?_
  refine wa_sub [1, 2, 3, 0] rfl ?_
  exact hrec21 v0 v1 v2 v3_1 k_v0 σ h
def f_X12_known_21_s (rec21 : Nat → Int32 → Int32 → Int32 → kf_St → Option (Int32 × kf_St)) (v0 : Nat) (v1 : Int32) (v2 : Int32) (v3 : Int32) (σ : kf_St) : Option (Int32 × kf_St) :=
  if (σ.1 v0 20) ≤ v3 then
    (f_X12_wrong v0 4 v2 σ).bind fun q_2 =>
    some ((-1), q_2)
  else
    if kf_ix v3 (kf_ln (kf_rf v0 21)) = true then
    if kf_ix v2 (kf_ln (kf_rf v0 8)) = true then
    if (lg_cmp (σ.2 (kf_rf v0 21) (Int32.toNatClampNeg v3)) (σ.2 (kf_rf v0 8) (Int32.toNatClampNeg v2))) = 0 then
      if kf_ix v3 (kf_ln (kf_rf v0 22)) = true then
      if (σ.1 (kf_rf v0 22) (Int32.toNatClampNeg v3)) < v1 then
        f_X12_known_77 rec21 v0 v1 v2 v3 σ
      else
        if kf_ix v3 (kf_ln (kf_rf v0 22)) = true then
        if (v1 + 10) ≤ (σ.1 (kf_rf v0 22) (Int32.toNatClampNeg v3)) then
          f_X12_known_77 rec21 v0 v1 v2 v3 σ
        else
          if kf_ix v3 (kf_ln (kf_rf v0 22)) = true then
          some (((σ.1 (kf_rf v0 22) (Int32.toNatClampNeg v3)) - v1), σ)
          else none
        else none
      else none
    else
      f_X12_known_77 rec21 v0 v1 v2 v3 σ
    else none
    else none
def f_X12_known_21 : Nat → Nat → Int32 → Int32 → Int32 → kf_St → Option (Int32 × kf_St)
  | 0, _, _, _, _, _ => none
  | n + 1, v0, v1, v2, v3, σ => f_X12_known_21_s (f_X12_known_21 n) v0 v1 v2 v3 σ
set_option maxRecDepth 100000 in
set_option maxHeartbeats 4000000 in
theorem b_X12_known_21_s {X : kf_X} {G : kf_G} (rec21 : Nat → Int32 → Int32 → Int32 → kf_St → Option (Int32 × kf_St)) {q : (Int32 × kf_St)} (E : kf_ok X G cX12_known RX12 4 (some .int) (4)) (hty : kf_wt G) (hrec21 : ∀ (v0 : Nat) (v1 : Int32) (v2 : Int32) (v3 : Int32) (k_v0 : kf_kd G v0 = 13) (σ : kf_St), rec21 v0 v1 v2 v3 σ = some q → kf_WA X G 4 (kf_Q X G (some (.int q.1)) q.2) 21 [(0, .ref (kf_ad G v0)), (1, .int v1), (2, .int v2), (3, .int v3)] [] σ) (v0 : Nat) (v1 : Int32) (v2 : Int32) (v3 : Int32) (k_v0 : kf_kd G v0 = 13) (σ : kf_St) (h : f_X12_known_21_s rec21 v0 v1 v2 v3 σ = some q) : kf_WA X G 4 (kf_Q X G (some (.int q.1)) q.2) 21 [(0, .ref (kf_ad G v0)), (1, .int v1), (2, .int v2), (3, .int v3)] [] σ := by
  unfold f_X12_known_21_s at h
  refine wa_iload_n 3 rfl E d_X12_known_21 ?_
  refine wa_aload_n 0 rfl E d_X12_known_22 ?_
  refine wa_getI fl_X12_239 k_v0 rfl E d_X12_known_23 ?_
  refine wa_icmp_ge E d_X12_known_26 (fun c_1 => ?_) (fun c_1 => ?_)
  · replace h := kf_ift c_1 h
    refine wa_aload_n 0 rfl E d_X12_known_83 ?_
    refine wa_iconst 4 ic_4 E d_X12_known_84 ?_
    refine wa_iload_n 2 rfl E d_X12_known_85 ?_
    obtain ⟨q_2, hq_2, h⟩ := kf_bd h
    refine wa_callV (st2 := []) (c_X12_wrong hty v0 4 v2 k_v0 σ hq_2) mv_X12_wrong ml_X12_284 k_v0 rfl (Nat.le_of_ble_eq_true rfl) rfl (Nat.le_of_ble_eq_true rfl) E d_X12_known_86 rfl ?_
    refine wa_iconst (-1) ic_m1 E d_X12_known_89 ?_
    cases h
    exact wa_iret E d_X12_known_90
  · replace h := kf_iff c_1 h
    refine wa_aload_n 0 rfl E d_X12_known_29 ?_
    refine wa_getR fl_X12_40 k_v0 rfl E d_X12_known_30 ?_
    refine wa_iload_n 3 rfl E d_X12_known_33 ?_
    obtain ⟨g_3, h⟩ := kf_gd h
    refine wa_lald (kf_wtf hty 21 50 k_v0 (by decide) rfl) g_3 E d_X12_known_34 ?_
    refine wa_aload_n 0 rfl E d_X12_known_35 ?_
    refine wa_getR fl_X12_30 k_v0 rfl E d_X12_known_36 ?_
    refine wa_iload_n 2 rfl E d_X12_known_39 ?_
    obtain ⟨g_4, h⟩ := kf_gd h
    refine wa_lald (kf_wtf hty 8 50 k_v0 (by decide) rfl) g_4 E d_X12_known_40 ?_
    refine wa_lcmp E d_X12_known_41 ?_
    refine wa_if_ne E d_X12_known_42 (fun c_5 => ?_) (fun c_5 => ?_)
    · replace h := kf_iff c_5 h
      exact b_X12_known_77 E hty hrec21 v0 v1 v2 v3 k_v0 σ h
    · replace h := kf_ift c_5 h
      refine wa_aload_n 0 rfl E d_X12_known_45 ?_
      refine wa_getR fl_X12_43 k_v0 rfl E d_X12_known_46 ?_
      refine wa_iload_n 3 rfl E d_X12_known_49 ?_
      obtain ⟨g_6, h⟩ := kf_gd h
      refine wa_iald (kf_wtf hty 22 49 k_v0 (by decide) rfl) g_6 E d_X12_known_50 ?_
      refine wa_iload_n 1 rfl E d_X12_known_51 ?_
      refine wa_icmp_lt E d_X12_known_52 (fun c_7 => ?_) (fun c_7 => ?_)
      · replace h := kf_ift c_7 h
        exact b_X12_known_77 E hty hrec21 v0 v1 v2 v3 k_v0 σ h
      · replace h := kf_iff c_7 h
        refine wa_aload_n 0 rfl E d_X12_known_55 ?_
        refine wa_getR fl_X12_43 k_v0 rfl E d_X12_known_56 ?_
        refine wa_iload_n 3 rfl E d_X12_known_59 ?_
        obtain ⟨g_8, h⟩ := kf_gd h
        refine wa_iald (kf_wtf hty 22 49 k_v0 (by decide) rfl) g_8 E d_X12_known_60 ?_
        refine wa_iload_n 1 rfl E d_X12_known_61 ?_
        refine wa_bipush 10 bp_10 E d_X12_known_62 ?_
        refine wa_iadd E d_X12_known_64 ?_
        refine wa_icmp_ge E d_X12_known_65 (fun c_9 => ?_) (fun c_9 => ?_)
        · replace h := kf_ift c_9 h
          exact b_X12_known_77 E hty hrec21 v0 v1 v2 v3 k_v0 σ h
        · replace h := kf_iff c_9 h
          refine wa_aload_n 0 rfl E d_X12_known_68 ?_
          refine wa_getR fl_X12_43 k_v0 rfl E d_X12_known_69 ?_
          refine wa_iload_n 3 rfl E d_X12_known_72 ?_
          obtain ⟨g_10, h⟩ := kf_gd h
          refine wa_iald (kf_wtf hty 22 49 k_v0 (by decide) rfl) g_10 E d_X12_known_73 ?_
          refine wa_iload_n 1 rfl E d_X12_known_74 ?_
          refine wa_isub E d_X12_known_75 ?_
          cases h
          exact wa_iret E d_X12_known_76
theorem b_X12_known_21 {X : kf_X} {G : kf_G} {q : (Int32 × kf_St)} (E : kf_ok X G cX12_known RX12 4 (some .int) (4)) (hty : kf_wt G) : ∀ (N : Nat) (v0 : Nat) (v1 : Int32) (v2 : Int32) (v3 : Int32) (k_v0 : kf_kd G v0 = 13) (σ : kf_St) (_ : f_X12_known_21 N v0 v1 v2 v3 σ = some q), kf_WA X G 4 (kf_Q X G (some (.int q.1)) q.2) 21 [(0, .ref (kf_ad G v0)), (1, .int v1), (2, .int v2), (3, .int v3)] [] σ
  | 0, _, _, _, _, _, _, h => by cases h
  | N + 1, v0, v1, v2, v3, k_v0, σ, h => b_X12_known_21_s _ E hty (b_X12_known_21 E hty N) v0 v1 v2 v3 k_v0 σ h
def f_X12_known (v0 : Nat) (v1 : Int32) (σ : kf_St) : Option (Int32 × kf_St) :=
  kf_lt ((σ.1 v0 11)) fun v2_1 =>
  (f_X12_must v0 1 σ).bind fun q_2 =>
  if (q_2.1 v0 13) ≤ 0 then
    f_X12_known_21 kf_F v0 v1 v2_1 0 q_2
  else
    some ((-1), q_2)
set_option maxRecDepth 100000 in
set_option maxHeartbeats 4000000 in
theorem c_X12_known {G : kf_G} (hty : kf_wt G) (v0 : Nat) (v1 : Int32) (k_v0 : kf_kd G v0 = 13) (σ : kf_St) {q : (Int32 × kf_St)} (h : f_X12_known v0 v1 σ = some q) : kf_Ct (4) yX12_known cX12_known 4 (some .int) G [.ref (kf_ad G v0), .int v1] σ (some (.int q.1)) q.2 := by
  refine kf_Ct.of hty.1 (lv := [(0, .ref (kf_ad G v0)), (1, .int v1)]) (by decide +kernel) rfl (Nat.le_of_ble_eq_true rfl) (fun X E => ?_)
  unfold f_X12_known at h
  refine wa_aload_n 0 rfl E d_X12_known_0 ?_
  refine wa_getI fl_X12_206 k_v0 rfl E d_X12_known_1 ?_
  obtain ⟨v2_1, ev2_1, h⟩ := kf_lte h
  refine wa_topi ev2_1 ?_
  refine wa_istore_n (lv' := [(2, .int v2_1), (0, .ref (kf_ad G v0)), (1, .int v1)]) rfl (by decide) rfl E d_X12_known_4 ?_
  refine wa_aload_n 1 rfl E d_X12_known_5 ?_
  refine wa_iconst 1 ic_1 E d_X12_known_6 ?_
  obtain ⟨q_2, hq_2, h⟩ := kf_bd h
  refine wa_callV (st2 := []) (c_X12_must hty v0 1 k_v0 σ hq_2) mv_X12_must ml_X12_261 k_v0 rfl (Nat.le_of_ble_eq_true rfl) rfl (Nat.le_of_ble_eq_true rfl) E d_X12_known_7 rfl ?_
  refine wa_aload_n 1 rfl E d_X12_known_10 ?_
  refine wa_getI fl_X12_203 k_v0 rfl E d_X12_known_11 ?_
  refine wa_if_le E d_X12_known_14 (fun c_3 => ?_) (fun c_3 => ?_)
  · replace h := kf_ift c_3 h
    refine wa_iconst 0 ic_0 E d_X12_known_19 ?_
    refine wa_istore_n (lv' := [(3, .int 0), (2, .int v2_1), (0, .ref (kf_ad G v0)), (1, .int v1)]) rfl (by decide) rfl E d_X12_known_20 ?_
    refine wa_sub [2, 3, 1, 0] rfl ?_
    exact b_X12_known_21 E hty kf_F v0 v1 v2_1 0 k_v0 q_2 h
  · replace h := kf_iff c_3 h
    refine wa_iconst (-1) ic_m1 E d_X12_known_17 ?_
    cases h
    exact wa_iret E d_X12_known_18
/-! X12_tellRound -/
theorem d_X12_tellRound_0 : kf_dq cX12_tellRound 0 2 2 (.bipush 10) := ⟨by decide +kernel, rfl⟩
theorem d_X12_tellRound_2 : kf_dq cX12_tellRound 2 3 1 (.aload_n 0) := ⟨by decide +kernel, rfl⟩
theorem d_X12_tellRound_3 : kf_dq cX12_tellRound 3 6 3 (.getfield 236) := ⟨by decide +kernel, rfl⟩
theorem d_X12_tellRound_6 : kf_dq cX12_tellRound 6 7 1 (.imul) := ⟨by decide +kernel, rfl⟩
theorem d_X12_tellRound_7 : kf_dq cX12_tellRound 7 8 1 (.aload_n 0) := ⟨by decide +kernel, rfl⟩
theorem d_X12_tellRound_8 : kf_dq cX12_tellRound 8 11 3 (.getfield 58) := ⟨by decide +kernel, rfl⟩
theorem d_X12_tellRound_11 : kf_dq cX12_tellRound 11 12 1 (.aload_n 0) := ⟨by decide +kernel, rfl⟩
theorem d_X12_tellRound_12 : kf_dq cX12_tellRound 12 15 3 (.getfield 236) := ⟨by decide +kernel, rfl⟩
theorem d_X12_tellRound_15 : kf_dq cX12_tellRound 15 16 1 (.iaload) := ⟨by decide +kernel, rfl⟩
theorem d_X12_tellRound_16 : kf_dq cX12_tellRound 16 17 1 (.iadd) := ⟨by decide +kernel, rfl⟩
theorem d_X12_tellRound_17 : kf_dq cX12_tellRound 17 18 1 (.istore_n 1) := ⟨by decide +kernel, rfl⟩
theorem d_X12_tellRound_18 : kf_dq cX12_tellRound 18 19 1 (.aload_n 0) := ⟨by decide +kernel, rfl⟩
theorem d_X12_tellRound_19 : kf_dq cX12_tellRound 19 22 3 (.getfield 61) := ⟨by decide +kernel, rfl⟩
theorem d_X12_tellRound_22 : kf_dq cX12_tellRound 22 23 1 (.iload_n 1) := ⟨by decide +kernel, rfl⟩
theorem d_X12_tellRound_23 : kf_dq cX12_tellRound 23 24 1 (.aload_n 0) := ⟨by decide +kernel, rfl⟩
theorem d_X12_tellRound_24 : kf_dq cX12_tellRound 24 26 2 (.bipush 10) := ⟨by decide +kernel, rfl⟩
theorem d_X12_tellRound_26 : kf_dq cX12_tellRound 26 29 3 (.invokevirtual 287) := ⟨by decide +kernel, rfl⟩
theorem d_X12_tellRound_29 : kf_dq cX12_tellRound 29 30 1 (.iastore) := ⟨by decide +kernel, rfl⟩
theorem d_X12_tellRound_30 : kf_dq cX12_tellRound 30 31 1 (.aload_n 0) := ⟨by decide +kernel, rfl⟩
theorem d_X12_tellRound_31 : kf_dq cX12_tellRound 31 34 3 (.getfield 64) := ⟨by decide +kernel, rfl⟩
theorem d_X12_tellRound_34 : kf_dq cX12_tellRound 34 35 1 (.iload_n 1) := ⟨by decide +kernel, rfl⟩
theorem d_X12_tellRound_35 : kf_dq cX12_tellRound 35 36 1 (.aload_n 0) := ⟨by decide +kernel, rfl⟩
theorem d_X12_tellRound_36 : kf_dq cX12_tellRound 36 37 1 (.iconst 0) := ⟨by decide +kernel, rfl⟩
theorem d_X12_tellRound_37 : kf_dq cX12_tellRound 37 40 3 (.invokevirtual 287) := ⟨by decide +kernel, rfl⟩
theorem d_X12_tellRound_40 : kf_dq cX12_tellRound 40 41 1 (.iastore) := ⟨by decide +kernel, rfl⟩
theorem d_X12_tellRound_41 : kf_dq cX12_tellRound 41 42 1 (.aload_n 0) := ⟨by decide +kernel, rfl⟩
theorem d_X12_tellRound_42 : kf_dq cX12_tellRound 42 45 3 (.getfield 67) := ⟨by decide +kernel, rfl⟩
theorem d_X12_tellRound_45 : kf_dq cX12_tellRound 45 46 1 (.iload_n 1) := ⟨by decide +kernel, rfl⟩
theorem d_X12_tellRound_46 : kf_dq cX12_tellRound 46 47 1 (.aload_n 0) := ⟨by decide +kernel, rfl⟩
theorem d_X12_tellRound_47 : kf_dq cX12_tellRound 47 48 1 (.iconst 1) := ⟨by decide +kernel, rfl⟩
theorem d_X12_tellRound_48 : kf_dq cX12_tellRound 48 50 2 (.bipush 30) := ⟨by decide +kernel, rfl⟩
theorem d_X12_tellRound_50 : kf_dq cX12_tellRound 50 53 3 (.invokevirtual 257) := ⟨by decide +kernel, rfl⟩
theorem d_X12_tellRound_53 : kf_dq cX12_tellRound 53 54 1 (.iastore) := ⟨by decide +kernel, rfl⟩
theorem d_X12_tellRound_54 : kf_dq cX12_tellRound 54 55 1 (.aload_n 0) := ⟨by decide +kernel, rfl⟩
theorem d_X12_tellRound_55 : kf_dq cX12_tellRound 55 58 3 (.getfield 70) := ⟨by decide +kernel, rfl⟩
theorem d_X12_tellRound_58 : kf_dq cX12_tellRound 58 59 1 (.iload_n 1) := ⟨by decide +kernel, rfl⟩
theorem d_X12_tellRound_59 : kf_dq cX12_tellRound 59 60 1 (.aload_n 0) := ⟨by decide +kernel, rfl⟩
theorem d_X12_tellRound_60 : kf_dq cX12_tellRound 60 61 1 (.iconst 0) := ⟨by decide +kernel, rfl⟩
theorem d_X12_tellRound_61 : kf_dq cX12_tellRound 61 63 2 (.bipush 29) := ⟨by decide +kernel, rfl⟩
theorem d_X12_tellRound_63 : kf_dq cX12_tellRound 63 66 3 (.invokevirtual 257) := ⟨by decide +kernel, rfl⟩
theorem d_X12_tellRound_66 : kf_dq cX12_tellRound 66 67 1 (.iastore) := ⟨by decide +kernel, rfl⟩
theorem d_X12_tellRound_67 : kf_dq cX12_tellRound 67 68 1 (.aload_n 0) := ⟨by decide +kernel, rfl⟩
theorem d_X12_tellRound_68 : kf_dq cX12_tellRound 68 69 1 (.iconst 4) := ⟨by decide +kernel, rfl⟩
theorem d_X12_tellRound_69 : kf_dq cX12_tellRound 69 72 3 (.invokevirtual 261) := ⟨by decide +kernel, rfl⟩
theorem d_X12_tellRound_72 : kf_dq cX12_tellRound 72 73 1 (.aload_n 0) := ⟨by decide +kernel, rfl⟩
theorem d_X12_tellRound_73 : kf_dq cX12_tellRound 73 76 3 (.getfield 203) := ⟨by decide +kernel, rfl⟩
theorem d_X12_tellRound_76 : kf_dj cX12_tellRound 76 79 92 (.ifCond .ne) := ⟨16, by decide +kernel, rfl, by decide⟩
theorem d_X12_tellRound_79 : kf_dq cX12_tellRound 79 80 1 (.aload_n 0) := ⟨by decide +kernel, rfl⟩
theorem d_X12_tellRound_80 : kf_dq cX12_tellRound 80 83 3 (.getfield 58) := ⟨by decide +kernel, rfl⟩
theorem d_X12_tellRound_83 : kf_dq cX12_tellRound 83 84 1 (.aload_n 0) := ⟨by decide +kernel, rfl⟩
theorem d_X12_tellRound_84 : kf_dq cX12_tellRound 84 87 3 (.getfield 236) := ⟨by decide +kernel, rfl⟩
theorem d_X12_tellRound_87 : kf_dq cX12_tellRound 87 88 1 (.dup2) := ⟨by decide +kernel, rfl⟩
theorem d_X12_tellRound_88 : kf_dq cX12_tellRound 88 89 1 (.iaload) := ⟨by decide +kernel, rfl⟩
theorem d_X12_tellRound_89 : kf_dq cX12_tellRound 89 90 1 (.iconst 1) := ⟨by decide +kernel, rfl⟩
theorem d_X12_tellRound_90 : kf_dq cX12_tellRound 90 91 1 (.iadd) := ⟨by decide +kernel, rfl⟩
theorem d_X12_tellRound_91 : kf_dq cX12_tellRound 91 92 1 (.iastore) := ⟨by decide +kernel, rfl⟩
theorem d_X12_tellRound_92 : kf_dq cX12_tellRound 92 93 1 (.return_) := ⟨by decide +kernel, rfl⟩
def f_X12_tellRound (v0 : Nat) (σ : kf_St) : Option kf_St :=
  if kf_ix (σ.1 v0 19) (kf_ln (kf_rf v0 27)) = true then
  kf_lt (((10 * (σ.1 v0 19)) + (σ.1 (kf_rf v0 27) (Int32.toNatClampNeg (σ.1 v0 19))))) fun v1_2 =>
  (f_X12_known v0 10 σ).bind fun q_3 =>
  if kf_ix v1_2 (kf_ln (kf_rf v0 28)) = true then
  kf_lt (kf_wi q_3.2 (kf_rf v0 28) (Int32.toNatClampNeg v1_2) q_3.1) fun σ_5 =>
  (f_X12_known v0 0 σ_5).bind fun q_6 =>
  if kf_ix v1_2 (kf_ln (kf_rf v0 29)) = true then
  kf_lt (kf_wi q_6.2 (kf_rf v0 29) (Int32.toNatClampNeg v1_2) q_6.1) fun σ_8 =>
  (f_X12_bounded v0 1 30 σ_8).bind fun q_9 =>
  if kf_ix v1_2 (kf_ln (kf_rf v0 30)) = true then
  kf_lt (kf_wi q_9.2 (kf_rf v0 30) (Int32.toNatClampNeg v1_2) q_9.1) fun σ_11 =>
  (f_X12_bounded v0 0 29 σ_11).bind fun q_12 =>
  if kf_ix v1_2 (kf_ln (kf_rf v0 31)) = true then
  kf_lt (kf_wi q_12.2 (kf_rf v0 31) (Int32.toNatClampNeg v1_2) q_12.1) fun σ_14 =>
  (f_X12_must v0 4 σ_14).bind fun q_15 =>
  if (q_15.1 v0 13) = 0 then
    if kf_ix (q_15.1 v0 19) (kf_ln (kf_rf v0 27)) = true then
    if kf_ix (q_15.1 v0 19) (kf_ln (kf_rf v0 27)) = true then
    kf_lt (kf_wi q_15 (kf_rf v0 27) (Int32.toNatClampNeg (q_15.1 v0 19)) ((q_15.1 (kf_rf v0 27) (Int32.toNatClampNeg (q_15.1 v0 19))) + 1)) fun σ_19 =>
    some σ_19
    else none
    else none
  else
    some q_15
  else none
  else none
  else none
  else none
  else none
set_option maxRecDepth 100000 in
set_option maxHeartbeats 4000000 in
theorem c_X12_tellRound {G : kf_G} (hty : kf_wt G) (v0 : Nat) (k_v0 : kf_kd G v0 = 13) (σ : kf_St) {q : kf_St} (h : f_X12_tellRound v0 σ = some q) : kf_Ct (5) yX12_tellRound cX12_tellRound 2 none G [.ref (kf_ad G v0)] σ none q := by
  refine kf_Ct.of hty.1 (lv := [(0, .ref (kf_ad G v0))]) (by decide +kernel) rfl (Nat.le_of_ble_eq_true rfl) (fun X E => ?_)
  unfold f_X12_tellRound at h
  refine wa_bipush 10 bp_10 E d_X12_tellRound_0 ?_
  refine wa_aload_n 0 rfl E d_X12_tellRound_2 ?_
  refine wa_getI fl_X12_236 k_v0 rfl E d_X12_tellRound_3 ?_
  refine wa_imul E d_X12_tellRound_6 ?_
  refine wa_aload_n 0 rfl E d_X12_tellRound_7 ?_
  refine wa_getR fl_X12_58 k_v0 rfl E d_X12_tellRound_8 ?_
  refine wa_aload_n 0 rfl E d_X12_tellRound_11 ?_
  refine wa_getI fl_X12_236 k_v0 rfl E d_X12_tellRound_12 ?_
  obtain ⟨g_1, h⟩ := kf_gd h
  refine wa_iald (kf_wtf hty 27 49 k_v0 (by decide) rfl) g_1 E d_X12_tellRound_15 ?_
  refine wa_iadd E d_X12_tellRound_16 ?_
  obtain ⟨v1_2, ev1_2, h⟩ := kf_lte h
  refine wa_topi ev1_2 ?_
  refine wa_istore_n (lv' := [(1, .int v1_2), (0, .ref (kf_ad G v0))]) rfl (by decide) rfl E d_X12_tellRound_17 ?_
  refine wa_aload_n 1 rfl E d_X12_tellRound_18 ?_
  refine wa_getR fl_X12_61 k_v0 rfl E d_X12_tellRound_19 ?_
  refine wa_iload_n 0 rfl E d_X12_tellRound_22 ?_
  refine wa_aload_n 1 rfl E d_X12_tellRound_23 ?_
  refine wa_bipush 10 bp_10 E d_X12_tellRound_24 ?_
  obtain ⟨q_3, hq_3, h⟩ := kf_bd h
  refine wa_callV (st2 := [.int q_3.1, .int v1_2, .ref (kf_ad G (kf_rf v0 28))]) (c_X12_known hty v0 10 k_v0 σ hq_3) mv_X12_known ml_X12_287 k_v0 rfl (Nat.le_of_ble_eq_true rfl) rfl (Nat.le_of_ble_eq_true rfl) E d_X12_tellRound_26 rfl ?_
  obtain ⟨g_4, h⟩ := kf_gd h
  obtain ⟨σ_5, eσ_5, h⟩ := kf_lte h
  refine wa_iast (kf_wtf hty 28 49 k_v0 (by decide) rfl) g_4 E d_X12_tellRound_29 eσ_5 ?_
  refine wa_aload_n 1 rfl E d_X12_tellRound_30 ?_
  refine wa_getR fl_X12_64 k_v0 rfl E d_X12_tellRound_31 ?_
  refine wa_iload_n 0 rfl E d_X12_tellRound_34 ?_
  refine wa_aload_n 1 rfl E d_X12_tellRound_35 ?_
  refine wa_iconst 0 ic_0 E d_X12_tellRound_36 ?_
  obtain ⟨q_6, hq_6, h⟩ := kf_bd h
  refine wa_callV (st2 := [.int q_6.1, .int v1_2, .ref (kf_ad G (kf_rf v0 29))]) (c_X12_known hty v0 0 k_v0 σ_5 hq_6) mv_X12_known ml_X12_287 k_v0 rfl (Nat.le_of_ble_eq_true rfl) rfl (Nat.le_of_ble_eq_true rfl) E d_X12_tellRound_37 rfl ?_
  obtain ⟨g_7, h⟩ := kf_gd h
  obtain ⟨σ_8, eσ_8, h⟩ := kf_lte h
  refine wa_iast (kf_wtf hty 29 49 k_v0 (by decide) rfl) g_7 E d_X12_tellRound_40 eσ_8 ?_
  refine wa_aload_n 1 rfl E d_X12_tellRound_41 ?_
  refine wa_getR fl_X12_67 k_v0 rfl E d_X12_tellRound_42 ?_
  refine wa_iload_n 0 rfl E d_X12_tellRound_45 ?_
  refine wa_aload_n 1 rfl E d_X12_tellRound_46 ?_
  refine wa_iconst 1 ic_1 E d_X12_tellRound_47 ?_
  refine wa_bipush 30 bp_30 E d_X12_tellRound_48 ?_
  obtain ⟨q_9, hq_9, h⟩ := kf_bd h
  refine wa_callV (st2 := [.int q_9.1, .int v1_2, .ref (kf_ad G (kf_rf v0 30))]) (c_X12_bounded hty v0 1 30 k_v0 σ_8 hq_9) mv_X12_bounded ml_X12_257 k_v0 rfl (Nat.le_of_ble_eq_true rfl) rfl (Nat.le_of_ble_eq_true rfl) E d_X12_tellRound_50 rfl ?_
  obtain ⟨g_10, h⟩ := kf_gd h
  obtain ⟨σ_11, eσ_11, h⟩ := kf_lte h
  refine wa_iast (kf_wtf hty 30 49 k_v0 (by decide) rfl) g_10 E d_X12_tellRound_53 eσ_11 ?_
  refine wa_aload_n 1 rfl E d_X12_tellRound_54 ?_
  refine wa_getR fl_X12_70 k_v0 rfl E d_X12_tellRound_55 ?_
  refine wa_iload_n 0 rfl E d_X12_tellRound_58 ?_
  refine wa_aload_n 1 rfl E d_X12_tellRound_59 ?_
  refine wa_iconst 0 ic_0 E d_X12_tellRound_60 ?_
  refine wa_bipush 29 bp_29 E d_X12_tellRound_61 ?_
  obtain ⟨q_12, hq_12, h⟩ := kf_bd h
  refine wa_callV (st2 := [.int q_12.1, .int v1_2, .ref (kf_ad G (kf_rf v0 31))]) (c_X12_bounded hty v0 0 29 k_v0 σ_11 hq_12) mv_X12_bounded ml_X12_257 k_v0 rfl (Nat.le_of_ble_eq_true rfl) rfl (Nat.le_of_ble_eq_true rfl) E d_X12_tellRound_63 rfl ?_
  obtain ⟨g_13, h⟩ := kf_gd h
  obtain ⟨σ_14, eσ_14, h⟩ := kf_lte h
  refine wa_iast (kf_wtf hty 31 49 k_v0 (by decide) rfl) g_13 E d_X12_tellRound_66 eσ_14 ?_
  refine wa_aload_n 1 rfl E d_X12_tellRound_67 ?_
  refine wa_iconst 4 ic_4 E d_X12_tellRound_68 ?_
  obtain ⟨q_15, hq_15, h⟩ := kf_bd h
  refine wa_callV (st2 := []) (c_X12_must hty v0 4 k_v0 σ_14 hq_15) mv_X12_must ml_X12_261 k_v0 rfl (Nat.le_of_ble_eq_true rfl) rfl (Nat.le_of_ble_eq_true rfl) E d_X12_tellRound_69 rfl ?_
  refine wa_aload_n 1 rfl E d_X12_tellRound_72 ?_
  refine wa_getI fl_X12_203 k_v0 rfl E d_X12_tellRound_73 ?_
  refine wa_if_ne E d_X12_tellRound_76 (fun c_16 => ?_) (fun c_16 => ?_)
  · replace h := kf_iff c_16 h
    cases h
    exact wa_vret E d_X12_tellRound_92
  · replace h := kf_ift c_16 h
    refine wa_aload_n 1 rfl E d_X12_tellRound_79 ?_
    refine wa_getR fl_X12_58 k_v0 rfl E d_X12_tellRound_80 ?_
    refine wa_aload_n 1 rfl E d_X12_tellRound_83 ?_
    refine wa_getI fl_X12_236 k_v0 rfl E d_X12_tellRound_84 ?_
    refine wa_dup2 rfl rfl E d_X12_tellRound_87 ?_
    obtain ⟨g_17, h⟩ := kf_gd h
    refine wa_iald (kf_wtf hty 27 49 k_v0 (by decide) rfl) g_17 E d_X12_tellRound_88 ?_
    refine wa_iconst 1 ic_1 E d_X12_tellRound_89 ?_
    refine wa_iadd E d_X12_tellRound_90 ?_
    obtain ⟨g_18, h⟩ := kf_gd h
    obtain ⟨σ_19, eσ_19, h⟩ := kf_lte h
    refine wa_iast (kf_wtf hty 27 49 k_v0 (by decide) rfl) g_18 E d_X12_tellRound_91 eσ_19 ?_
    cases h
    exact wa_vret E d_X12_tellRound_92
/-! X12_toldInt -/
theorem d_X12_toldInt_0 : kf_dq cX12_toldInt 0 1 1 (.aload_n 0) := ⟨by decide +kernel, rfl⟩
theorem d_X12_toldInt_1 : kf_dq cX12_toldInt 1 4 3 (.invokevirtual 224) := ⟨by decide +kernel, rfl⟩
theorem d_X12_toldInt_4 : kf_dq cX12_toldInt 4 5 1 (.aload_n 0) := ⟨by decide +kernel, rfl⟩
theorem d_X12_toldInt_5 : kf_dq cX12_toldInt 5 6 1 (.iload_n 1) := ⟨by decide +kernel, rfl⟩
theorem d_X12_toldInt_6 : kf_dq cX12_toldInt 6 7 1 (.iload_n 2) := ⟨by decide +kernel, rfl⟩
theorem d_X12_toldInt_7 : kf_dq cX12_toldInt 7 10 3 (.invokevirtual 257) := ⟨by decide +kernel, rfl⟩
theorem d_X12_toldInt_10 : kf_dq cX12_toldInt 10 11 1 (.istore_n 3) := ⟨by decide +kernel, rfl⟩
theorem d_X12_toldInt_11 : kf_dq cX12_toldInt 11 12 1 (.aload_n 0) := ⟨by decide +kernel, rfl⟩
theorem d_X12_toldInt_12 : kf_dq cX12_toldInt 12 13 1 (.iconst 4) := ⟨by decide +kernel, rfl⟩
theorem d_X12_toldInt_13 : kf_dq cX12_toldInt 13 16 3 (.invokevirtual 261) := ⟨by decide +kernel, rfl⟩
theorem d_X12_toldInt_16 : kf_dq cX12_toldInt 16 17 1 (.iload_n 3) := ⟨by decide +kernel, rfl⟩
theorem d_X12_toldInt_17 : kf_dq cX12_toldInt 17 18 1 (.ireturn) := ⟨by decide +kernel, rfl⟩
def f_X12_toldInt (v0 : Nat) (v1 : Int32) (v2 : Int32) (σ : kf_St) : Option (Int32 × kf_St) :=
  (f_X12_goesOn v0 σ).bind fun q_1 =>
  (f_X12_bounded v0 v1 v2 q_1).bind fun q_2 =>
  (f_X12_must v0 4 q_2.2).bind fun q_3 =>
  some (q_2.1, q_3)
set_option maxRecDepth 100000 in
set_option maxHeartbeats 4000000 in
theorem c_X12_toldInt {G : kf_G} (hty : kf_wt G) (v0 : Nat) (v1 : Int32) (v2 : Int32) (k_v0 : kf_kd G v0 = 13) (σ : kf_St) {q : (Int32 × kf_St)} (h : f_X12_toldInt v0 v1 v2 σ = some q) : kf_Ct (4) yX12_toldInt cX12_toldInt 4 (some .int) G [.ref (kf_ad G v0), .int v1, .int v2] σ (some (.int q.1)) q.2 := by
  refine kf_Ct.of hty.1 (lv := [(0, .ref (kf_ad G v0)), (1, .int v1), (2, .int v2)]) (by decide +kernel) rfl (Nat.le_of_ble_eq_true rfl) (fun X E => ?_)
  unfold f_X12_toldInt at h
  refine wa_aload_n 0 rfl E d_X12_toldInt_0 ?_
  obtain ⟨q_1, hq_1, h⟩ := kf_bd h
  refine wa_callV (st2 := []) (c_X12_goesOn hty v0 k_v0 σ hq_1) mv_X12_goesOn ml_X12_224 k_v0 rfl (Nat.le_of_ble_eq_true rfl) rfl (Nat.le_of_ble_eq_true rfl) E d_X12_toldInt_1 rfl ?_
  refine wa_aload_n 0 rfl E d_X12_toldInt_4 ?_
  refine wa_iload_n 1 rfl E d_X12_toldInt_5 ?_
  refine wa_iload_n 2 rfl E d_X12_toldInt_6 ?_
  obtain ⟨q_2, hq_2, h⟩ := kf_bd h
  refine wa_callV (st2 := [.int q_2.1]) (c_X12_bounded hty v0 v1 v2 k_v0 q_1 hq_2) mv_X12_bounded ml_X12_257 k_v0 rfl (Nat.le_of_ble_eq_true rfl) rfl (Nat.le_of_ble_eq_true rfl) E d_X12_toldInt_7 rfl ?_
  refine wa_istore_n (lv' := [(3, .int q_2.1), (0, .ref (kf_ad G v0)), (1, .int v1), (2, .int v2)]) rfl (by decide) rfl E d_X12_toldInt_10 ?_
  refine wa_aload_n 1 rfl E d_X12_toldInt_11 ?_
  refine wa_iconst 4 ic_4 E d_X12_toldInt_12 ?_
  obtain ⟨q_3, hq_3, h⟩ := kf_bd h
  refine wa_callV (st2 := []) (c_X12_must hty v0 4 k_v0 q_2.2 hq_3) mv_X12_must ml_X12_261 k_v0 rfl (Nat.le_of_ble_eq_true rfl) rfl (Nat.le_of_ble_eq_true rfl) E d_X12_toldInt_13 rfl ?_
  refine wa_iload_n 0 rfl E d_X12_toldInt_16 ?_
  cases h
  exact wa_iret E d_X12_toldInt_17
/-! X12_emit -/
theorem d_X12_emit_0 : kf_dq cX12_emit 0 1 1 (.aload_n 0) := ⟨by decide +kernel, rfl⟩
theorem d_X12_emit_1 : kf_dq cX12_emit 1 4 3 (.getfield 104) := ⟨by decide +kernel, rfl⟩
theorem d_X12_emit_4 : kf_dq cX12_emit 4 5 1 (.aload_n 0) := ⟨by decide +kernel, rfl⟩
theorem d_X12_emit_5 : kf_dq cX12_emit 5 8 3 (.getfield 245) := ⟨by decide +kernel, rfl⟩
theorem d_X12_emit_8 : kf_dq cX12_emit 8 9 1 (.iload_n 1) := ⟨by decide +kernel, rfl⟩
theorem d_X12_emit_9 : kf_dq cX12_emit 9 10 1 (.iastore) := ⟨by decide +kernel, rfl⟩
theorem d_X12_emit_10 : kf_dq cX12_emit 10 11 1 (.aload_n 0) := ⟨by decide +kernel, rfl⟩
theorem d_X12_emit_11 : kf_dq cX12_emit 11 14 3 (.getfield 107) := ⟨by decide +kernel, rfl⟩
theorem d_X12_emit_14 : kf_dq cX12_emit 14 15 1 (.aload_n 0) := ⟨by decide +kernel, rfl⟩
theorem d_X12_emit_15 : kf_dq cX12_emit 15 18 3 (.getfield 245) := ⟨by decide +kernel, rfl⟩
theorem d_X12_emit_18 : kf_dq cX12_emit 18 19 1 (.iload_n 2) := ⟨by decide +kernel, rfl⟩
theorem d_X12_emit_19 : kf_dq cX12_emit 19 20 1 (.iastore) := ⟨by decide +kernel, rfl⟩
theorem d_X12_emit_20 : kf_dq cX12_emit 20 21 1 (.aload_n 0) := ⟨by decide +kernel, rfl⟩
theorem d_X12_emit_21 : kf_dq cX12_emit 21 22 1 (.dup) := ⟨by decide +kernel, rfl⟩
theorem d_X12_emit_22 : kf_dq cX12_emit 22 25 3 (.getfield 245) := ⟨by decide +kernel, rfl⟩
theorem d_X12_emit_25 : kf_dq cX12_emit 25 26 1 (.iconst 1) := ⟨by decide +kernel, rfl⟩
theorem d_X12_emit_26 : kf_dq cX12_emit 26 27 1 (.iadd) := ⟨by decide +kernel, rfl⟩
theorem d_X12_emit_27 : kf_dq cX12_emit 27 30 3 (.putfield 245) := ⟨by decide +kernel, rfl⟩
theorem d_X12_emit_30 : kf_dq cX12_emit 30 31 1 (.return_) := ⟨by decide +kernel, rfl⟩
def f_X12_emit (v0 : Nat) (v1 : Int32) (v2 : Int32) (σ : kf_St) : Option kf_St :=
  if kf_ix (σ.1 v0 43) (kf_ln (kf_rf v0 44)) = true then
  kf_lt (kf_wi σ (kf_rf v0 44) (Int32.toNatClampNeg (σ.1 v0 43)) v1) fun σ_2 =>
  if kf_ix (σ_2.1 v0 43) (kf_ln (kf_rf v0 45)) = true then
  kf_lt (kf_wi σ_2 (kf_rf v0 45) (Int32.toNatClampNeg (σ_2.1 v0 43)) v2) fun σ_4 =>
  kf_lt (kf_wi σ_4 v0 43 ((σ_4.1 v0 43) + 1)) fun σ_5 =>
  some σ_5
  else none
  else none
set_option maxRecDepth 100000 in
set_option maxHeartbeats 4000000 in
theorem c_X12_emit {G : kf_G} (hty : kf_wt G) (v0 : Nat) (v1 : Int32) (v2 : Int32) (k_v0 : kf_kd G v0 = 13) (σ : kf_St) {q : kf_St} (h : f_X12_emit v0 v1 v2 σ = some q) : kf_Ct (1) yX12_emit cX12_emit 3 none G [.ref (kf_ad G v0), .int v1, .int v2] σ none q := by
  refine kf_Ct.of hty.1 (lv := [(0, .ref (kf_ad G v0)), (1, .int v1), (2, .int v2)]) (by decide +kernel) rfl (Nat.le_of_ble_eq_true rfl) (fun X E => ?_)
  unfold f_X12_emit at h
  refine wa_aload_n 0 rfl E d_X12_emit_0 ?_
  refine wa_getR fl_X12_104 k_v0 rfl E d_X12_emit_1 ?_
  refine wa_aload_n 0 rfl E d_X12_emit_4 ?_
  refine wa_getI fl_X12_245 k_v0 rfl E d_X12_emit_5 ?_
  refine wa_iload_n 1 rfl E d_X12_emit_8 ?_
  obtain ⟨g_1, h⟩ := kf_gd h
  obtain ⟨σ_2, eσ_2, h⟩ := kf_lte h
  refine wa_iast (kf_wtf hty 44 49 k_v0 (by decide) rfl) g_1 E d_X12_emit_9 eσ_2 ?_
  refine wa_aload_n 0 rfl E d_X12_emit_10 ?_
  refine wa_getR fl_X12_107 k_v0 rfl E d_X12_emit_11 ?_
  refine wa_aload_n 0 rfl E d_X12_emit_14 ?_
  refine wa_getI fl_X12_245 k_v0 rfl E d_X12_emit_15 ?_
  refine wa_iload_n 2 rfl E d_X12_emit_18 ?_
  obtain ⟨g_3, h⟩ := kf_gd h
  obtain ⟨σ_4, eσ_4, h⟩ := kf_lte h
  refine wa_iast (kf_wtf hty 45 49 k_v0 (by decide) rfl) g_3 E d_X12_emit_19 eσ_4 ?_
  refine wa_aload_n 0 rfl E d_X12_emit_20 ?_
  refine wa_dup rfl E d_X12_emit_21 ?_
  refine wa_getI fl_X12_245 k_v0 rfl E d_X12_emit_22 ?_
  refine wa_iconst 1 ic_1 E d_X12_emit_25 ?_
  refine wa_iadd E d_X12_emit_26 ?_
  obtain ⟨σ_5, eσ_5, h⟩ := kf_lte h
  refine wa_putI fl_X12_245 fp_12_43 k_v0 rfl (by decide) rfl rfl E d_X12_emit_27 eσ_5 ?_
  cases h
  exact wa_vret E d_X12_emit_30
/-! X12_unit -/
theorem d_X12_unit_0 : kf_dq cX12_unit 0 1 1 (.aload_n 0) := ⟨by decide +kernel, rfl⟩
theorem d_X12_unit_1 : kf_dq cX12_unit 1 2 1 (.iconst 2) := ⟨by decide +kernel, rfl⟩
theorem d_X12_unit_2 : kf_dq cX12_unit 2 5 3 (.invokevirtual 221) := ⟨by decide +kernel, rfl⟩
theorem d_X12_unit_5 : kf_dj cX12_unit 5 8 29 (.ifCond .eq) := ⟨24, by decide +kernel, rfl, by decide⟩
theorem d_X12_unit_8 : kf_dq cX12_unit 8 9 1 (.aload_n 0) := ⟨by decide +kernel, rfl⟩
theorem d_X12_unit_9 : kf_dq cX12_unit 9 10 1 (.iconst 0) := ⟨by decide +kernel, rfl⟩
theorem d_X12_unit_10 : kf_dq cX12_unit 10 11 1 (.aload_n 0) := ⟨by decide +kernel, rfl⟩
theorem d_X12_unit_11 : kf_dq cX12_unit 11 14 3 (.getfield 27) := ⟨by decide +kernel, rfl⟩
theorem d_X12_unit_14 : kf_dq cX12_unit 14 15 1 (.aload_n 0) := ⟨by decide +kernel, rfl⟩
theorem d_X12_unit_15 : kf_dq cX12_unit 15 18 3 (.getfield 206) := ⟨by decide +kernel, rfl⟩
theorem d_X12_unit_18 : kf_dq cX12_unit 18 19 1 (.iaload) := ⟨by decide +kernel, rfl⟩
theorem d_X12_unit_19 : kf_dq cX12_unit 19 22 3 (.invokevirtual 299) := ⟨by decide +kernel, rfl⟩
theorem d_X12_unit_22 : kf_dq cX12_unit 22 23 1 (.aload_n 0) := ⟨by decide +kernel, rfl⟩
theorem d_X12_unit_23 : kf_dq cX12_unit 23 26 3 (.invokevirtual 224) := ⟨by decide +kernel, rfl⟩
theorem d_X12_unit_26 : kf_dj cX12_unit 26 29 93 .goto := ⟨67, by decide +kernel, rfl, by decide⟩
theorem d_X12_unit_29 : kf_dq cX12_unit 29 30 1 (.aload_n 0) := ⟨by decide +kernel, rfl⟩
theorem d_X12_unit_30 : kf_dq cX12_unit 30 33 3 (.getfield 203) := ⟨by decide +kernel, rfl⟩
theorem d_X12_unit_33 : kf_dj cX12_unit 33 36 88 (.ifCond .ne) := ⟨55, by decide +kernel, rfl, by decide⟩
theorem d_X12_unit_36 : kf_dq cX12_unit 36 37 1 (.aload_n 0) := ⟨by decide +kernel, rfl⟩
theorem d_X12_unit_37 : kf_dq cX12_unit 37 40 3 (.getfield 20) := ⟨by decide +kernel, rfl⟩
theorem d_X12_unit_40 : kf_dq cX12_unit 40 41 1 (.aload_n 0) := ⟨by decide +kernel, rfl⟩
theorem d_X12_unit_41 : kf_dq cX12_unit 41 44 3 (.getfield 206) := ⟨by decide +kernel, rfl⟩
theorem d_X12_unit_44 : kf_dq cX12_unit 44 45 1 (.iaload) := ⟨by decide +kernel, rfl⟩
theorem d_X12_unit_45 : kf_dq cX12_unit 45 47 2 (.bipush 32) := ⟨by decide +kernel, rfl⟩
theorem d_X12_unit_47 : kf_dj cX12_unit 47 50 88 (.if_icmp .lt) := ⟨41, by decide +kernel, rfl, by decide⟩
theorem d_X12_unit_50 : kf_dq cX12_unit 50 51 1 (.aload_n 0) := ⟨by decide +kernel, rfl⟩
theorem d_X12_unit_51 : kf_dq cX12_unit 51 54 3 (.getfield 20) := ⟨by decide +kernel, rfl⟩
theorem d_X12_unit_54 : kf_dq cX12_unit 54 55 1 (.aload_n 0) := ⟨by decide +kernel, rfl⟩
theorem d_X12_unit_55 : kf_dq cX12_unit 55 58 3 (.getfield 206) := ⟨by decide +kernel, rfl⟩
theorem d_X12_unit_58 : kf_dq cX12_unit 58 59 1 (.iaload) := ⟨by decide +kernel, rfl⟩
theorem d_X12_unit_59 : kf_dq cX12_unit 59 61 2 (.bipush 40) := ⟨by decide +kernel, rfl⟩
theorem d_X12_unit_61 : kf_dj cX12_unit 61 64 88 (.if_icmp .gt) := ⟨27, by decide +kernel, rfl, by decide⟩
theorem d_X12_unit_64 : kf_dq cX12_unit 64 65 1 (.aload_n 0) := ⟨by decide +kernel, rfl⟩
theorem d_X12_unit_65 : kf_dq cX12_unit 65 66 1 (.iconst 1) := ⟨by decide +kernel, rfl⟩
theorem d_X12_unit_66 : kf_dq cX12_unit 66 67 1 (.aload_n 0) := ⟨by decide +kernel, rfl⟩
theorem d_X12_unit_67 : kf_dq cX12_unit 67 70 3 (.getfield 20) := ⟨by decide +kernel, rfl⟩
theorem d_X12_unit_70 : kf_dq cX12_unit 70 71 1 (.aload_n 0) := ⟨by decide +kernel, rfl⟩
theorem d_X12_unit_71 : kf_dq cX12_unit 71 74 3 (.getfield 206) := ⟨by decide +kernel, rfl⟩
theorem d_X12_unit_74 : kf_dq cX12_unit 74 75 1 (.iaload) := ⟨by decide +kernel, rfl⟩
theorem d_X12_unit_75 : kf_dq cX12_unit 75 77 2 (.bipush 32) := ⟨by decide +kernel, rfl⟩
theorem d_X12_unit_77 : kf_dq cX12_unit 77 78 1 (.isub) := ⟨by decide +kernel, rfl⟩
theorem d_X12_unit_78 : kf_dq cX12_unit 78 81 3 (.invokevirtual 299) := ⟨by decide +kernel, rfl⟩
theorem d_X12_unit_81 : kf_dq cX12_unit 81 82 1 (.aload_n 0) := ⟨by decide +kernel, rfl⟩
theorem d_X12_unit_82 : kf_dq cX12_unit 82 85 3 (.invokevirtual 224) := ⟨by decide +kernel, rfl⟩
theorem d_X12_unit_85 : kf_dj cX12_unit 85 88 93 .goto := ⟨8, by decide +kernel, rfl, by decide⟩
theorem d_X12_unit_88 : kf_dq cX12_unit 88 89 1 (.aload_n 0) := ⟨by decide +kernel, rfl⟩
theorem d_X12_unit_89 : kf_dq cX12_unit 89 90 1 (.iconst 1) := ⟨by decide +kernel, rfl⟩
theorem d_X12_unit_90 : kf_dq cX12_unit 90 93 3 (.invokevirtual 218) := ⟨by decide +kernel, rfl⟩
theorem d_X12_unit_93 : kf_dq cX12_unit 93 94 1 (.return_) := ⟨by decide +kernel, rfl⟩
def f_X12_unit_88 (v0 : Nat) (σ : kf_St) : Option kf_St :=
  (f_X12_fail v0 1 σ).bind fun q_1 =>
  some q_1
set_option maxRecDepth 100000 in
set_option maxHeartbeats 4000000 in
theorem b_X12_unit_88 {X : kf_X} {G : kf_G} {q : kf_St} (E : kf_ok X G cX12_unit RX12 1 none (3)) (hty : kf_wt G) (v0 : Nat) (k_v0 : kf_kd G v0 = 13) (σ : kf_St) (h : f_X12_unit_88 v0 σ = some q) : kf_WA X G 1 (kf_Q X G none q) 88 [(0, .ref (kf_ad G v0))] [] σ := by
  unfold f_X12_unit_88 at h
  refine wa_aload_n 0 rfl E d_X12_unit_88 ?_
  refine wa_iconst 1 ic_1 E d_X12_unit_89 ?_
  obtain ⟨q_1, hq_1, h⟩ := kf_bd h
  refine wa_callV (st2 := []) (c_X12_fail hty v0 1 k_v0 σ hq_1) mv_X12_fail ml_X12_218 k_v0 rfl (Nat.le_of_ble_eq_true rfl) rfl (Nat.le_of_ble_eq_true rfl) E d_X12_unit_90 rfl ?_
  cases h
  exact wa_vret E d_X12_unit_93
def f_X12_unit (v0 : Nat) (σ : kf_St) : Option kf_St :=
  (f_X12_is v0 2 σ).bind fun q_1 =>
  if q_1.1 = 0 then
    if (q_1.2.1 v0 13) = 0 then
      if kf_ix (q_1.2.1 v0 11) (kf_ln (kf_rf v0 5)) = true then
      if (q_1.2.1 (kf_rf v0 5) (Int32.toNatClampNeg (q_1.2.1 v0 11))) < 32 then
        f_X12_unit_88 v0 q_1.2
      else
        if kf_ix (q_1.2.1 v0 11) (kf_ln (kf_rf v0 5)) = true then
        if 40 < (q_1.2.1 (kf_rf v0 5) (Int32.toNatClampNeg (q_1.2.1 v0 11))) then
          f_X12_unit_88 v0 q_1.2
        else
          if kf_ix (q_1.2.1 v0 11) (kf_ln (kf_rf v0 5)) = true then
          (f_X12_emit v0 1 ((q_1.2.1 (kf_rf v0 5) (Int32.toNatClampNeg (q_1.2.1 v0 11))) - 32) q_1.2).bind fun q_9 =>
          (f_X12_goesOn v0 q_9).bind fun q_10 =>
          some q_10
          else none
        else none
      else none
    else
      f_X12_unit_88 v0 q_1.2
  else
    if kf_ix (q_1.2.1 v0 11) (kf_ln (kf_rf v0 7)) = true then
    (f_X12_emit v0 0 (q_1.2.1 (kf_rf v0 7) (Int32.toNatClampNeg (q_1.2.1 v0 11))) q_1.2).bind fun q_12 =>
    (f_X12_goesOn v0 q_12).bind fun q_13 =>
    some q_13
    else none
set_option maxRecDepth 100000 in
set_option maxHeartbeats 4000000 in
theorem c_X12_unit {G : kf_G} (hty : kf_wt G) (v0 : Nat) (k_v0 : kf_kd G v0 = 13) (σ : kf_St) {q : kf_St} (h : f_X12_unit v0 σ = some q) : kf_Ct (3) yX12_unit cX12_unit 1 none G [.ref (kf_ad G v0)] σ none q := by
  refine kf_Ct.of hty.1 (lv := [(0, .ref (kf_ad G v0))]) (by decide +kernel) rfl (Nat.le_of_ble_eq_true rfl) (fun X E => ?_)
  unfold f_X12_unit at h
  refine wa_aload_n 0 rfl E d_X12_unit_0 ?_
  refine wa_iconst 2 ic_2 E d_X12_unit_1 ?_
  obtain ⟨q_1, hq_1, h⟩ := kf_bd h
  refine wa_callV (st2 := [.int q_1.1]) (c_X12_is hty v0 2 k_v0 σ hq_1) mv_X12_is ml_X12_221 k_v0 rfl (Nat.le_of_ble_eq_true rfl) rfl (Nat.le_of_ble_eq_true rfl) E d_X12_unit_2 rfl ?_
  refine wa_if_eq E d_X12_unit_5 (fun c_2 => ?_) (fun c_2 => ?_)
  · replace h := kf_ift c_2 h
    refine wa_aload_n 0 rfl E d_X12_unit_29 ?_
    refine wa_getI fl_X12_203 k_v0 rfl E d_X12_unit_30 ?_
    refine wa_if_ne E d_X12_unit_33 (fun c_3 => ?_) (fun c_3 => ?_)
    · replace h := kf_iff c_3 h
      exact b_X12_unit_88 E hty v0 k_v0 q_1.2 h
    · replace h := kf_ift c_3 h
      refine wa_aload_n 0 rfl E d_X12_unit_36 ?_
      refine wa_getR fl_X12_20 k_v0 rfl E d_X12_unit_37 ?_
      refine wa_aload_n 0 rfl E d_X12_unit_40 ?_
      refine wa_getI fl_X12_206 k_v0 rfl E d_X12_unit_41 ?_
      obtain ⟨g_4, h⟩ := kf_gd h
      refine wa_iald (kf_wtf hty 5 49 k_v0 (by decide) rfl) g_4 E d_X12_unit_44 ?_
      refine wa_bipush 32 bp_32 E d_X12_unit_45 ?_
      refine wa_icmp_lt E d_X12_unit_47 (fun c_5 => ?_) (fun c_5 => ?_)
      · replace h := kf_ift c_5 h
        exact b_X12_unit_88 E hty v0 k_v0 q_1.2 h
      · replace h := kf_iff c_5 h
        refine wa_aload_n 0 rfl E d_X12_unit_50 ?_
        refine wa_getR fl_X12_20 k_v0 rfl E d_X12_unit_51 ?_
        refine wa_aload_n 0 rfl E d_X12_unit_54 ?_
        refine wa_getI fl_X12_206 k_v0 rfl E d_X12_unit_55 ?_
        obtain ⟨g_6, h⟩ := kf_gd h
        refine wa_iald (kf_wtf hty 5 49 k_v0 (by decide) rfl) g_6 E d_X12_unit_58 ?_
        refine wa_bipush 40 bp_40 E d_X12_unit_59 ?_
        refine wa_icmp_gt E d_X12_unit_61 (fun c_7 => ?_) (fun c_7 => ?_)
        · replace h := kf_ift c_7 h
          exact b_X12_unit_88 E hty v0 k_v0 q_1.2 h
        · replace h := kf_iff c_7 h
          refine wa_aload_n 0 rfl E d_X12_unit_64 ?_
          refine wa_iconst 1 ic_1 E d_X12_unit_65 ?_
          refine wa_aload_n 0 rfl E d_X12_unit_66 ?_
          refine wa_getR fl_X12_20 k_v0 rfl E d_X12_unit_67 ?_
          refine wa_aload_n 0 rfl E d_X12_unit_70 ?_
          refine wa_getI fl_X12_206 k_v0 rfl E d_X12_unit_71 ?_
          obtain ⟨g_8, h⟩ := kf_gd h
          refine wa_iald (kf_wtf hty 5 49 k_v0 (by decide) rfl) g_8 E d_X12_unit_74 ?_
          refine wa_bipush 32 bp_32 E d_X12_unit_75 ?_
          refine wa_isub E d_X12_unit_77 ?_
          obtain ⟨q_9, hq_9, h⟩ := kf_bd h
          refine wa_callV (st2 := []) (c_X12_emit hty v0 1 ((q_1.2.1 (kf_rf v0 5) (Int32.toNatClampNeg (q_1.2.1 v0 11))) - 32) k_v0 q_1.2 hq_9) mv_X12_emit ml_X12_299 k_v0 rfl (Nat.le_of_ble_eq_true rfl) rfl (Nat.le_of_ble_eq_true rfl) E d_X12_unit_78 rfl ?_
          refine wa_aload_n 0 rfl E d_X12_unit_81 ?_
          obtain ⟨q_10, hq_10, h⟩ := kf_bd h
          refine wa_callV (st2 := []) (c_X12_goesOn hty v0 k_v0 q_9 hq_10) mv_X12_goesOn ml_X12_224 k_v0 rfl (Nat.le_of_ble_eq_true rfl) rfl (Nat.le_of_ble_eq_true rfl) E d_X12_unit_82 rfl ?_
          refine wa_goto E d_X12_unit_85 ?_
          cases h
          exact wa_vret E d_X12_unit_93
  · replace h := kf_iff c_2 h
    refine wa_aload_n 0 rfl E d_X12_unit_8 ?_
    refine wa_iconst 0 ic_0 E d_X12_unit_9 ?_
    refine wa_aload_n 0 rfl E d_X12_unit_10 ?_
    refine wa_getR fl_X12_27 k_v0 rfl E d_X12_unit_11 ?_
    refine wa_aload_n 0 rfl E d_X12_unit_14 ?_
    refine wa_getI fl_X12_206 k_v0 rfl E d_X12_unit_15 ?_
    obtain ⟨g_11, h⟩ := kf_gd h
    refine wa_iald (kf_wtf hty 7 49 k_v0 (by decide) rfl) g_11 E d_X12_unit_18 ?_
    obtain ⟨q_12, hq_12, h⟩ := kf_bd h
    refine wa_callV (st2 := []) (c_X12_emit hty v0 0 (q_1.2.1 (kf_rf v0 7) (Int32.toNatClampNeg (q_1.2.1 v0 11))) k_v0 q_1.2 hq_12) mv_X12_emit ml_X12_299 k_v0 rfl (Nat.le_of_ble_eq_true rfl) rfl (Nat.le_of_ble_eq_true rfl) E d_X12_unit_19 rfl ?_
    refine wa_aload_n 0 rfl E d_X12_unit_22 ?_
    obtain ⟨q_13, hq_13, h⟩ := kf_bd h
    refine wa_callV (st2 := []) (c_X12_goesOn hty v0 k_v0 q_12 hq_13) mv_X12_goesOn ml_X12_224 k_v0 rfl (Nat.le_of_ble_eq_true rfl) rfl (Nat.le_of_ble_eq_true rfl) E d_X12_unit_23 rfl ?_
    refine wa_goto E d_X12_unit_26 ?_
    cases h
    exact wa_vret E d_X12_unit_93
/-! X12_comesOut -/
theorem d_X12_comesOut_0 : kf_dq cX12_comesOut 0 1 1 (.aload_n 0) := ⟨by decide +kernel, rfl⟩
theorem d_X12_comesOut_1 : kf_dq cX12_comesOut 1 4 3 (.getfield 296) := ⟨by decide +kernel, rfl⟩
theorem d_X12_comesOut_4 : kf_dj cX12_comesOut 4 7 91 (.ifCond .le) := ⟨87, by decide +kernel, rfl, by decide⟩
theorem d_X12_comesOut_7 : kf_dq cX12_comesOut 7 8 1 (.aload_n 0) := ⟨by decide +kernel, rfl⟩
theorem d_X12_comesOut_8 : kf_dq cX12_comesOut 8 11 3 (.getfield 110) := ⟨by decide +kernel, rfl⟩
theorem d_X12_comesOut_11 : kf_dq cX12_comesOut 11 12 1 (.aload_n 0) := ⟨by decide +kernel, rfl⟩
theorem d_X12_comesOut_12 : kf_dq cX12_comesOut 12 15 3 (.getfield 296) := ⟨by decide +kernel, rfl⟩
theorem d_X12_comesOut_15 : kf_dq cX12_comesOut 15 16 1 (.iconst 1) := ⟨by decide +kernel, rfl⟩
theorem d_X12_comesOut_16 : kf_dq cX12_comesOut 16 17 1 (.isub) := ⟨by decide +kernel, rfl⟩
theorem d_X12_comesOut_17 : kf_dq cX12_comesOut 17 18 1 (.iaload) := ⟨by decide +kernel, rfl⟩
theorem d_X12_comesOut_18 : kf_dq cX12_comesOut 18 19 1 (.istore_n 2) := ⟨by decide +kernel, rfl⟩
theorem d_X12_comesOut_19 : kf_dq cX12_comesOut 19 20 1 (.iload_n 2) := ⟨by decide +kernel, rfl⟩
theorem d_X12_comesOut_20 : kf_dq cX12_comesOut 20 22 2 (.bipush 6) := ⟨by decide +kernel, rfl⟩
theorem d_X12_comesOut_22 : kf_dj cX12_comesOut 22 25 41 (.if_icmp .eq) := ⟨19, by decide +kernel, rfl, by decide⟩
theorem d_X12_comesOut_25 : kf_dq cX12_comesOut 25 26 1 (.iload_n 1) := ⟨by decide +kernel, rfl⟩
theorem d_X12_comesOut_26 : kf_dj cX12_comesOut 26 29 42 (.ifCond .eq) := ⟨16, by decide +kernel, rfl, by decide⟩
theorem d_X12_comesOut_29 : kf_dq cX12_comesOut 29 30 1 (.iload_n 2) := ⟨by decide +kernel, rfl⟩
theorem d_X12_comesOut_30 : kf_dq cX12_comesOut 30 32 2 (.bipush 8) := ⟨by decide +kernel, rfl⟩
theorem d_X12_comesOut_32 : kf_dj cX12_comesOut 32 35 41 (.if_icmp .eq) := ⟨9, by decide +kernel, rfl, by decide⟩
theorem d_X12_comesOut_35 : kf_dq cX12_comesOut 35 36 1 (.iload_n 2) := ⟨by decide +kernel, rfl⟩
theorem d_X12_comesOut_36 : kf_dq cX12_comesOut 36 38 2 (.bipush 9) := ⟨by decide +kernel, rfl⟩
theorem d_X12_comesOut_38 : kf_dj cX12_comesOut 38 41 42 (.if_icmp .ne) := ⟨4, by decide +kernel, rfl, by decide⟩
theorem d_X12_comesOut_41 : kf_dq cX12_comesOut 41 42 1 (.return_) := ⟨by decide +kernel, rfl⟩
theorem d_X12_comesOut_42 : kf_dq cX12_comesOut 42 43 1 (.aload_n 0) := ⟨by decide +kernel, rfl⟩
theorem d_X12_comesOut_43 : kf_dq cX12_comesOut 43 44 1 (.dup) := ⟨by decide +kernel, rfl⟩
theorem d_X12_comesOut_44 : kf_dq cX12_comesOut 44 47 3 (.getfield 296) := ⟨by decide +kernel, rfl⟩
theorem d_X12_comesOut_47 : kf_dq cX12_comesOut 47 48 1 (.iconst 1) := ⟨by decide +kernel, rfl⟩
theorem d_X12_comesOut_48 : kf_dq cX12_comesOut 48 49 1 (.isub) := ⟨by decide +kernel, rfl⟩
theorem d_X12_comesOut_49 : kf_dq cX12_comesOut 49 52 3 (.putfield 296) := ⟨by decide +kernel, rfl⟩
theorem d_X12_comesOut_52 : kf_dq cX12_comesOut 52 53 1 (.aload_n 0) := ⟨by decide +kernel, rfl⟩
theorem d_X12_comesOut_53 : kf_dq cX12_comesOut 53 54 1 (.iload_n 2) := ⟨by decide +kernel, rfl⟩
theorem d_X12_comesOut_54 : kf_dq cX12_comesOut 54 56 2 (.bipush 8) := ⟨by decide +kernel, rfl⟩
theorem d_X12_comesOut_56 : kf_dj cX12_comesOut 56 59 63 (.if_icmp .ne) := ⟨7, by decide +kernel, rfl, by decide⟩
theorem d_X12_comesOut_59 : kf_dq cX12_comesOut 59 60 1 (.iconst 2) := ⟨by decide +kernel, rfl⟩
theorem d_X12_comesOut_60 : kf_dj cX12_comesOut 60 63 84 .goto := ⟨24, by decide +kernel, rfl, by decide⟩
theorem d_X12_comesOut_63 : kf_dq cX12_comesOut 63 64 1 (.iload_n 2) := ⟨by decide +kernel, rfl⟩
theorem d_X12_comesOut_64 : kf_dq cX12_comesOut 64 66 2 (.bipush 9) := ⟨by decide +kernel, rfl⟩
theorem d_X12_comesOut_66 : kf_dj cX12_comesOut 66 69 73 (.if_icmp .ne) := ⟨7, by decide +kernel, rfl, by decide⟩
theorem d_X12_comesOut_69 : kf_dq cX12_comesOut 69 70 1 (.iconst 3) := ⟨by decide +kernel, rfl⟩
theorem d_X12_comesOut_70 : kf_dj cX12_comesOut 70 73 84 .goto := ⟨14, by decide +kernel, rfl, by decide⟩
theorem d_X12_comesOut_73 : kf_dq cX12_comesOut 73 74 1 (.iload_n 2) := ⟨by decide +kernel, rfl⟩
theorem d_X12_comesOut_74 : kf_dq cX12_comesOut 74 76 2 (.bipush 10) := ⟨by decide +kernel, rfl⟩
theorem d_X12_comesOut_76 : kf_dj cX12_comesOut 76 79 83 (.if_icmp .ne) := ⟨7, by decide +kernel, rfl, by decide⟩
theorem d_X12_comesOut_79 : kf_dq cX12_comesOut 79 80 1 (.iconst 4) := ⟨by decide +kernel, rfl⟩
theorem d_X12_comesOut_80 : kf_dj cX12_comesOut 80 83 84 .goto := ⟨4, by decide +kernel, rfl, by decide⟩
theorem d_X12_comesOut_83 : kf_dq cX12_comesOut 83 84 1 (.iconst 5) := ⟨by decide +kernel, rfl⟩
theorem d_X12_comesOut_84 : kf_dq cX12_comesOut 84 85 1 (.iconst 0) := ⟨by decide +kernel, rfl⟩
theorem d_X12_comesOut_85 : kf_dq cX12_comesOut 85 88 3 (.invokevirtual 299) := ⟨by decide +kernel, rfl⟩
theorem d_X12_comesOut_88 : kf_dj cX12_comesOut 88 91 0 .goto := ⟨(-88), by decide +kernel, rfl, by decide⟩
theorem d_X12_comesOut_91 : kf_dq cX12_comesOut 91 92 1 (.return_) := ⟨by decide +kernel, rfl⟩
def f_X12_comesOut_84 (rec0 : Nat → Int32 → kf_St → Option kf_St) (v0 : Nat) (v1 : Int32) (s0 : Nat) (s1 : Int32) (σ : kf_St) : Option kf_St :=
  (f_X12_emit s0 s1 0 σ).bind fun q_1 =>
  rec0 v0 v1 q_1
set_option maxRecDepth 100000 in
set_option maxHeartbeats 4000000 in
theorem b_X12_comesOut_84 {X : kf_X} {G : kf_G} {rec0 : Nat → Int32 → kf_St → Option kf_St} {q : kf_St} (E : kf_ok X G cX12_comesOut RX12 3 none (2)) (hty : kf_wt G) (hrec0 : ∀ (v0 : Nat) (v1 : Int32) (k_v0 : kf_kd G v0 = 13) (σ : kf_St), rec0 v0 v1 σ = some q → kf_WA X G 3 (kf_Q X G none q) 0 [(0, .ref (kf_ad G v0)), (1, .int v1)] [] σ) (v0 : Nat) (v1 : Int32) (s0 : Nat) (s1 : Int32) (k_v0 : kf_kd G v0 = 13) (k_s0 : kf_kd G s0 = 13) (σ : kf_St) (h : f_X12_comesOut_84 rec0 v0 v1 s0 s1 σ = some q) : kf_WA X G 3 (kf_Q X G none q) 84 [(0, .ref (kf_ad G v0)), (1, .int v1)] [.int s1, .ref (kf_ad G s0)] σ := by
  unfold f_X12_comesOut_84 at h
  refine wa_iconst 0 ic_0 E d_X12_comesOut_84 ?_
  obtain ⟨q_1, hq_1, h⟩ := kf_bd h
  refine wa_callV (st2 := []) (c_X12_emit hty s0 s1 0 k_s0 σ hq_1) mv_X12_emit ml_X12_299 k_s0 rfl (Nat.le_of_ble_eq_true rfl) rfl (Nat.le_of_ble_eq_true rfl) E d_X12_comesOut_85 rfl ?_
  refine wa_goto E d_X12_comesOut_88 ?_
  exact hrec0 v0 v1 k_v0 q_1 h
def f_X12_comesOut_42 (rec0 : Nat → Int32 → kf_St → Option kf_St) (v0 : Nat) (v1 : Int32) (v2 : Int32) (σ : kf_St) : Option kf_St :=
  kf_lt (kf_wi σ v0 47 ((σ.1 v0 47) - 1)) fun σ_1 =>
  if v2 = 8 then
    f_X12_comesOut_84 rec0 v0 v1 v0 2 σ_1
  else
    if v2 = 9 then
      f_X12_comesOut_84 rec0 v0 v1 v0 3 σ_1
    else
      if v2 = 10 then
        f_X12_comesOut_84 rec0 v0 v1 v0 4 σ_1
      else
        f_X12_comesOut_84 rec0 v0 v1 v0 5 σ_1
set_option maxRecDepth 100000 in
set_option maxHeartbeats 4000000 in
theorem b_X12_comesOut_42 {X : kf_X} {G : kf_G} {rec0 : Nat → Int32 → kf_St → Option kf_St} {q : kf_St} (E : kf_ok X G cX12_comesOut RX12 3 none (2)) (hty : kf_wt G) (hrec0 : ∀ (v0 : Nat) (v1 : Int32) (k_v0 : kf_kd G v0 = 13) (σ : kf_St), rec0 v0 v1 σ = some q → kf_WA X G 3 (kf_Q X G none q) 0 [(0, .ref (kf_ad G v0)), (1, .int v1)] [] σ) (v0 : Nat) (v1 : Int32) (v2 : Int32) (k_v0 : kf_kd G v0 = 13) (σ : kf_St) (h : f_X12_comesOut_42 rec0 v0 v1 v2 σ = some q) : kf_WA X G 3 (kf_Q X G none q) 42 [(0, .ref (kf_ad G v0)), (1, .int v1), (2, .int v2)] [] σ := by
  unfold f_X12_comesOut_42 at h
  refine wa_aload_n 0 rfl E d_X12_comesOut_42 ?_
  refine wa_dup rfl E d_X12_comesOut_43 ?_
  refine wa_getI fl_X12_296 k_v0 rfl E d_X12_comesOut_44 ?_
  refine wa_iconst 1 ic_1 E d_X12_comesOut_47 ?_
  refine wa_isub E d_X12_comesOut_48 ?_
  obtain ⟨σ_1, eσ_1, h⟩ := kf_lte h
  refine wa_putI fl_X12_296 fp_12_47 k_v0 rfl (by decide) rfl rfl E d_X12_comesOut_49 eσ_1 ?_
  refine wa_aload_n 0 rfl E d_X12_comesOut_52 ?_
  refine wa_iload_n 2 rfl E d_X12_comesOut_53 ?_
  refine wa_bipush 8 bp_8 E d_X12_comesOut_54 ?_
  refine wa_icmp_ne E d_X12_comesOut_56 (fun c_2 => ?_) (fun c_2 => ?_)
  · replace h := kf_iff c_2 h
    refine wa_iload_n 2 rfl E d_X12_comesOut_63 ?_
    refine wa_bipush 9 bp_9 E d_X12_comesOut_64 ?_
    refine wa_icmp_ne E d_X12_comesOut_66 (fun c_3 => ?_) (fun c_3 => ?_)
    · replace h := kf_iff c_3 h
      refine wa_iload_n 2 rfl E d_X12_comesOut_73 ?_
      refine wa_bipush 10 bp_10 E d_X12_comesOut_74 ?_
      refine wa_icmp_ne E d_X12_comesOut_76 (fun c_4 => ?_) (fun c_4 => ?_)
      · replace h := kf_iff c_4 h
        refine wa_iconst 5 ic_5 E d_X12_comesOut_83 ?_
        refine wa_sub [0, 1] rfl ?_
        exact b_X12_comesOut_84 E hty hrec0 v0 v1 v0 5 k_v0 k_v0 σ_1 h
      · replace h := kf_ift c_4 h
        refine wa_iconst 4 ic_4 E d_X12_comesOut_79 ?_
        refine wa_goto E d_X12_comesOut_80 ?_
        refine wa_sub [0, 1] rfl ?_
        exact b_X12_comesOut_84 E hty hrec0 v0 v1 v0 4 k_v0 k_v0 σ_1 h
    · replace h := kf_ift c_3 h
      refine wa_iconst 3 ic_3 E d_X12_comesOut_69 ?_
      refine wa_goto E d_X12_comesOut_70 ?_
      refine wa_sub [0, 1] rfl ?_
      exact b_X12_comesOut_84 E hty hrec0 v0 v1 v0 3 k_v0 k_v0 σ_1 h
  · replace h := kf_ift c_2 h
    refine wa_iconst 2 ic_2 E d_X12_comesOut_59 ?_
    refine wa_goto E d_X12_comesOut_60 ?_
    refine wa_sub [0, 1] rfl ?_
    exact b_X12_comesOut_84 E hty hrec0 v0 v1 v0 2 k_v0 k_v0 σ_1 h
def f_X12_comesOut_0_s (rec0 : Nat → Int32 → kf_St → Option kf_St) (v0 : Nat) (v1 : Int32) (σ : kf_St) : Option kf_St :=
  if (σ.1 v0 47) ≤ 0 then
    some σ
  else
    if kf_ix ((σ.1 v0 47) - 1) (kf_ln (kf_rf v0 46)) = true then
    kf_lt ((σ.1 (kf_rf v0 46) (Int32.toNatClampNeg ((σ.1 v0 47) - 1)))) fun v2_3 =>
    if v2_3 = 6 then
      some σ
    else
      if v1 = 0 then
        f_X12_comesOut_42 rec0 v0 v1 v2_3 σ
      else
        if v2_3 = 8 then
          some σ
        else
          if v2_3 = 9 then
            some σ
          else
            f_X12_comesOut_42 rec0 v0 v1 v2_3 σ
    else none
def f_X12_comesOut_0 : Nat → Nat → Int32 → kf_St → Option kf_St
  | 0, _, _, _ => none
  | n + 1, v0, v1, σ => f_X12_comesOut_0_s (f_X12_comesOut_0 n) v0 v1 σ
set_option maxRecDepth 100000 in
set_option maxHeartbeats 4000000 in
theorem b_X12_comesOut_0_s {X : kf_X} {G : kf_G} (rec0 : Nat → Int32 → kf_St → Option kf_St) {q : kf_St} (E : kf_ok X G cX12_comesOut RX12 3 none (2)) (hty : kf_wt G) (hrec0 : ∀ (v0 : Nat) (v1 : Int32) (k_v0 : kf_kd G v0 = 13) (σ : kf_St), rec0 v0 v1 σ = some q → kf_WA X G 3 (kf_Q X G none q) 0 [(0, .ref (kf_ad G v0)), (1, .int v1)] [] σ) (v0 : Nat) (v1 : Int32) (k_v0 : kf_kd G v0 = 13) (σ : kf_St) (h : f_X12_comesOut_0_s rec0 v0 v1 σ = some q) : kf_WA X G 3 (kf_Q X G none q) 0 [(0, .ref (kf_ad G v0)), (1, .int v1)] [] σ := by
  unfold f_X12_comesOut_0_s at h
  refine wa_aload_n 0 rfl E d_X12_comesOut_0 ?_
  refine wa_getI fl_X12_296 k_v0 rfl E d_X12_comesOut_1 ?_
  refine wa_if_le E d_X12_comesOut_4 (fun c_1 => ?_) (fun c_1 => ?_)
  · replace h := kf_ift c_1 h
    cases h
    exact wa_vret E d_X12_comesOut_91
  · replace h := kf_iff c_1 h
    refine wa_aload_n 0 rfl E d_X12_comesOut_7 ?_
    refine wa_getR fl_X12_110 k_v0 rfl E d_X12_comesOut_8 ?_
    refine wa_aload_n 0 rfl E d_X12_comesOut_11 ?_
    refine wa_getI fl_X12_296 k_v0 rfl E d_X12_comesOut_12 ?_
    refine wa_iconst 1 ic_1 E d_X12_comesOut_15 ?_
    refine wa_isub E d_X12_comesOut_16 ?_
    obtain ⟨g_2, h⟩ := kf_gd h
    refine wa_iald (kf_wtf hty 46 49 k_v0 (by decide) rfl) g_2 E d_X12_comesOut_17 ?_
    obtain ⟨v2_3, ev2_3, h⟩ := kf_lte h
    refine wa_topi ev2_3 ?_
    refine wa_istore_n (lv' := [(2, .int v2_3), (0, .ref (kf_ad G v0)), (1, .int v1)]) rfl (by decide) rfl E d_X12_comesOut_18 ?_
    refine wa_iload_n 0 rfl E d_X12_comesOut_19 ?_
    refine wa_bipush 6 bp_6 E d_X12_comesOut_20 ?_
    refine wa_icmp_eq E d_X12_comesOut_22 (fun c_4 => ?_) (fun c_4 => ?_)
    · replace h := kf_ift c_4 h
      cases h
      exact wa_vret E d_X12_comesOut_41
    · replace h := kf_iff c_4 h
      refine wa_iload_n 2 rfl E d_X12_comesOut_25 ?_
      refine wa_if_eq E d_X12_comesOut_26 (fun c_5 => ?_) (fun c_5 => ?_)
      · replace h := kf_ift c_5 h
        refine wa_sub [1, 2, 0] rfl ?_
        exact b_X12_comesOut_42 E hty hrec0 v0 v1 v2_3 k_v0 σ h
      · replace h := kf_iff c_5 h
        refine wa_iload_n 0 rfl E d_X12_comesOut_29 ?_
        refine wa_bipush 8 bp_8 E d_X12_comesOut_30 ?_
        refine wa_icmp_eq E d_X12_comesOut_32 (fun c_6 => ?_) (fun c_6 => ?_)
        · replace h := kf_ift c_6 h
          cases h
          exact wa_vret E d_X12_comesOut_41
        · replace h := kf_iff c_6 h
          refine wa_iload_n 0 rfl E d_X12_comesOut_35 ?_
          refine wa_bipush 9 bp_9 E d_X12_comesOut_36 ?_
          refine wa_icmp_ne E d_X12_comesOut_38 (fun c_7 => ?_) (fun c_7 => ?_)
          · replace h := kf_iff c_7 h
            refine wa_sub [1, 2, 0] rfl ?_
            exact b_X12_comesOut_42 E hty hrec0 v0 v1 v2_3 k_v0 σ h
          · replace h := kf_ift c_7 h
            cases h
            exact wa_vret E d_X12_comesOut_41
theorem b_X12_comesOut_0 {X : kf_X} {G : kf_G} {q : kf_St} (E : kf_ok X G cX12_comesOut RX12 3 none (2)) (hty : kf_wt G) : ∀ (N : Nat) (v0 : Nat) (v1 : Int32) (k_v0 : kf_kd G v0 = 13) (σ : kf_St) (_ : f_X12_comesOut_0 N v0 v1 σ = some q), kf_WA X G 3 (kf_Q X G none q) 0 [(0, .ref (kf_ad G v0)), (1, .int v1)] [] σ
  | 0, _, _, _, _, h => by cases h
  | N + 1, v0, v1, k_v0, σ, h => b_X12_comesOut_0_s _ E hty (b_X12_comesOut_0 E hty N) v0 v1 k_v0 σ h
def f_X12_comesOut (v0 : Nat) (v1 : Int32) (σ : kf_St) : Option kf_St :=
  f_X12_comesOut_0 kf_F v0 v1 σ
set_option maxRecDepth 100000 in
set_option maxHeartbeats 4000000 in
theorem c_X12_comesOut {G : kf_G} (hty : kf_wt G) (v0 : Nat) (v1 : Int32) (k_v0 : kf_kd G v0 = 13) (σ : kf_St) {q : kf_St} (h : f_X12_comesOut v0 v1 σ = some q) : kf_Ct (2) yX12_comesOut cX12_comesOut 3 none G [.ref (kf_ad G v0), .int v1] σ none q := by
  refine kf_Ct.of hty.1 (lv := [(0, .ref (kf_ad G v0)), (1, .int v1)]) (by decide +kernel) rfl (Nat.le_of_ble_eq_true rfl) (fun X E => ?_)
  unfold f_X12_comesOut at h
  exact b_X12_comesOut_0 E hty kf_F v0 v1 k_v0 σ h
/-! X12_expression -/
theorem d_X12_expression_0 : kf_dq cX12_expression 0 1 1 (.aload_n 0) := ⟨by decide +kernel, rfl⟩
theorem d_X12_expression_1 : kf_dq cX12_expression 1 2 1 (.iconst 0) := ⟨by decide +kernel, rfl⟩
theorem d_X12_expression_2 : kf_dq cX12_expression 2 5 3 (.putfield 296) := ⟨by decide +kernel, rfl⟩
theorem d_X12_expression_5 : kf_dq cX12_expression 5 6 1 (.aload_n 0) := ⟨by decide +kernel, rfl⟩
theorem d_X12_expression_6 : kf_dq cX12_expression 6 9 3 (.getfield 230) := ⟨by decide +kernel, rfl⟩
theorem d_X12_expression_9 : kf_dq cX12_expression 9 10 1 (.istore_n 1) := ⟨by decide +kernel, rfl⟩
theorem d_X12_expression_10 : kf_dq cX12_expression 10 11 1 (.iconst 1) := ⟨by decide +kernel, rfl⟩
theorem d_X12_expression_11 : kf_dq cX12_expression 11 12 1 (.istore_n 2) := ⟨by decide +kernel, rfl⟩
theorem d_X12_expression_12 : kf_dq cX12_expression 12 13 1 (.iload_n 2) := ⟨by decide +kernel, rfl⟩
theorem d_X12_expression_13 : kf_dj cX12_expression 13 16 272 (.ifCond .eq) := ⟨259, by decide +kernel, rfl, by decide⟩
theorem d_X12_expression_16 : kf_dq cX12_expression 16 17 1 (.aload_n 0) := ⟨by decide +kernel, rfl⟩
theorem d_X12_expression_17 : kf_dq cX12_expression 17 20 3 (.getfield 203) := ⟨by decide +kernel, rfl⟩
theorem d_X12_expression_20 : kf_dj cX12_expression 20 23 272 (.ifCond .ne) := ⟨252, by decide +kernel, rfl, by decide⟩
theorem d_X12_expression_23 : kf_dq cX12_expression 23 24 1 (.aload_n 0) := ⟨by decide +kernel, rfl⟩
theorem d_X12_expression_24 : kf_dq cX12_expression 24 26 2 (.bipush 6) := ⟨by decide +kernel, rfl⟩
theorem d_X12_expression_26 : kf_dq cX12_expression 26 29 3 (.invokevirtual 221) := ⟨by decide +kernel, rfl⟩
theorem d_X12_expression_29 : kf_dj cX12_expression 29 32 84 (.ifCond .eq) := ⟨55, by decide +kernel, rfl, by decide⟩
theorem d_X12_expression_32 : kf_dq cX12_expression 32 33 1 (.aload_n 0) := ⟨by decide +kernel, rfl⟩
theorem d_X12_expression_33 : kf_dq cX12_expression 33 36 3 (.getfield 230) := ⟨by decide +kernel, rfl⟩
theorem d_X12_expression_36 : kf_dq cX12_expression 36 38 2 (.bipush 6) := ⟨by decide +kernel, rfl⟩
theorem d_X12_expression_38 : kf_dj cX12_expression 38 41 46 (.if_icmp .ne) := ⟨8, by decide +kernel, rfl, by decide⟩
theorem d_X12_expression_41 : kf_dq cX12_expression 41 42 1 (.aload_n 0) := ⟨by decide +kernel, rfl⟩
theorem d_X12_expression_42 : kf_dq cX12_expression 42 43 1 (.iconst 2) := ⟨by decide +kernel, rfl⟩
theorem d_X12_expression_43 : kf_dq cX12_expression 43 46 3 (.invokevirtual 218) := ⟨by decide +kernel, rfl⟩
theorem d_X12_expression_46 : kf_dq cX12_expression 46 47 1 (.aload_n 0) := ⟨by decide +kernel, rfl⟩
theorem d_X12_expression_47 : kf_dq cX12_expression 47 48 1 (.dup) := ⟨by decide +kernel, rfl⟩
theorem d_X12_expression_48 : kf_dq cX12_expression 48 51 3 (.getfield 230) := ⟨by decide +kernel, rfl⟩
theorem d_X12_expression_51 : kf_dq cX12_expression 51 52 1 (.iconst 1) := ⟨by decide +kernel, rfl⟩
theorem d_X12_expression_52 : kf_dq cX12_expression 52 53 1 (.iadd) := ⟨by decide +kernel, rfl⟩
theorem d_X12_expression_53 : kf_dq cX12_expression 53 56 3 (.putfield 230) := ⟨by decide +kernel, rfl⟩
theorem d_X12_expression_56 : kf_dq cX12_expression 56 57 1 (.aload_n 0) := ⟨by decide +kernel, rfl⟩
theorem d_X12_expression_57 : kf_dq cX12_expression 57 60 3 (.invokevirtual 224) := ⟨by decide +kernel, rfl⟩
theorem d_X12_expression_60 : kf_dq cX12_expression 60 61 1 (.aload_n 0) := ⟨by decide +kernel, rfl⟩
theorem d_X12_expression_61 : kf_dq cX12_expression 61 64 3 (.getfield 110) := ⟨by decide +kernel, rfl⟩
theorem d_X12_expression_64 : kf_dq cX12_expression 64 65 1 (.aload_n 0) := ⟨by decide +kernel, rfl⟩
theorem d_X12_expression_65 : kf_dq cX12_expression 65 68 3 (.getfield 296) := ⟨by decide +kernel, rfl⟩
theorem d_X12_expression_68 : kf_dq cX12_expression 68 70 2 (.bipush 6) := ⟨by decide +kernel, rfl⟩
theorem d_X12_expression_70 : kf_dq cX12_expression 70 71 1 (.iastore) := ⟨by decide +kernel, rfl⟩
theorem d_X12_expression_71 : kf_dq cX12_expression 71 72 1 (.aload_n 0) := ⟨by decide +kernel, rfl⟩
theorem d_X12_expression_72 : kf_dq cX12_expression 72 73 1 (.dup) := ⟨by decide +kernel, rfl⟩
theorem d_X12_expression_73 : kf_dq cX12_expression 73 76 3 (.getfield 296) := ⟨by decide +kernel, rfl⟩
theorem d_X12_expression_76 : kf_dq cX12_expression 76 77 1 (.iconst 1) := ⟨by decide +kernel, rfl⟩
theorem d_X12_expression_77 : kf_dq cX12_expression 77 78 1 (.iadd) := ⟨by decide +kernel, rfl⟩
theorem d_X12_expression_78 : kf_dq cX12_expression 78 81 3 (.putfield 296) := ⟨by decide +kernel, rfl⟩
theorem d_X12_expression_81 : kf_dj cX12_expression 81 84 23 .goto := ⟨(-58), by decide +kernel, rfl, by decide⟩
theorem d_X12_expression_84 : kf_dq cX12_expression 84 85 1 (.aload_n 0) := ⟨by decide +kernel, rfl⟩
theorem d_X12_expression_85 : kf_dq cX12_expression 85 88 3 (.invokevirtual 302) := ⟨by decide +kernel, rfl⟩
theorem d_X12_expression_88 : kf_dq cX12_expression 88 89 1 (.aload_n 0) := ⟨by decide +kernel, rfl⟩
theorem d_X12_expression_89 : kf_dq cX12_expression 89 92 3 (.getfield 203) := ⟨by decide +kernel, rfl⟩
theorem d_X12_expression_92 : kf_dj cX12_expression 92 95 96 (.ifCond .le) := ⟨4, by decide +kernel, rfl, by decide⟩
theorem d_X12_expression_95 : kf_dq cX12_expression 95 96 1 (.return_) := ⟨by decide +kernel, rfl⟩
theorem d_X12_expression_96 : kf_dq cX12_expression 96 97 1 (.aload_n 0) := ⟨by decide +kernel, rfl⟩
theorem d_X12_expression_97 : kf_dq cX12_expression 97 99 2 (.bipush 7) := ⟨by decide +kernel, rfl⟩
theorem d_X12_expression_99 : kf_dq cX12_expression 99 102 3 (.invokevirtual 221) := ⟨by decide +kernel, rfl⟩
theorem d_X12_expression_102 : kf_dj cX12_expression 102 105 145 (.ifCond .eq) := ⟨43, by decide +kernel, rfl, by decide⟩
theorem d_X12_expression_105 : kf_dq cX12_expression 105 106 1 (.aload_n 0) := ⟨by decide +kernel, rfl⟩
theorem d_X12_expression_106 : kf_dq cX12_expression 106 109 3 (.getfield 230) := ⟨by decide +kernel, rfl⟩
theorem d_X12_expression_109 : kf_dq cX12_expression 109 110 1 (.iload_n 1) := ⟨by decide +kernel, rfl⟩
theorem d_X12_expression_110 : kf_dj cX12_expression 110 113 145 (.if_icmp .le) := ⟨35, by decide +kernel, rfl, by decide⟩
theorem d_X12_expression_113 : kf_dq cX12_expression 113 114 1 (.aload_n 0) := ⟨by decide +kernel, rfl⟩
theorem d_X12_expression_114 : kf_dq cX12_expression 114 115 1 (.iconst 0) := ⟨by decide +kernel, rfl⟩
theorem d_X12_expression_115 : kf_dq cX12_expression 115 118 3 (.invokevirtual 305) := ⟨by decide +kernel, rfl⟩
theorem d_X12_expression_118 : kf_dq cX12_expression 118 119 1 (.aload_n 0) := ⟨by decide +kernel, rfl⟩
theorem d_X12_expression_119 : kf_dq cX12_expression 119 120 1 (.dup) := ⟨by decide +kernel, rfl⟩
theorem d_X12_expression_120 : kf_dq cX12_expression 120 123 3 (.getfield 296) := ⟨by decide +kernel, rfl⟩
theorem d_X12_expression_123 : kf_dq cX12_expression 123 124 1 (.iconst 1) := ⟨by decide +kernel, rfl⟩
theorem d_X12_expression_124 : kf_dq cX12_expression 124 125 1 (.isub) := ⟨by decide +kernel, rfl⟩
theorem d_X12_expression_125 : kf_dq cX12_expression 125 128 3 (.putfield 296) := ⟨by decide +kernel, rfl⟩
theorem d_X12_expression_128 : kf_dq cX12_expression 128 129 1 (.aload_n 0) := ⟨by decide +kernel, rfl⟩
theorem d_X12_expression_129 : kf_dq cX12_expression 129 130 1 (.dup) := ⟨by decide +kernel, rfl⟩
theorem d_X12_expression_130 : kf_dq cX12_expression 130 133 3 (.getfield 230) := ⟨by decide +kernel, rfl⟩
theorem d_X12_expression_133 : kf_dq cX12_expression 133 134 1 (.iconst 1) := ⟨by decide +kernel, rfl⟩
theorem d_X12_expression_134 : kf_dq cX12_expression 134 135 1 (.isub) := ⟨by decide +kernel, rfl⟩
theorem d_X12_expression_135 : kf_dq cX12_expression 135 138 3 (.putfield 230) := ⟨by decide +kernel, rfl⟩
theorem d_X12_expression_138 : kf_dq cX12_expression 138 139 1 (.aload_n 0) := ⟨by decide +kernel, rfl⟩
theorem d_X12_expression_139 : kf_dq cX12_expression 139 142 3 (.invokevirtual 224) := ⟨by decide +kernel, rfl⟩
theorem d_X12_expression_142 : kf_dj cX12_expression 142 145 96 .goto := ⟨(-46), by decide +kernel, rfl, by decide⟩
theorem d_X12_expression_145 : kf_dq cX12_expression 145 146 1 (.aload_n 0) := ⟨by decide +kernel, rfl⟩
theorem d_X12_expression_146 : kf_dq cX12_expression 146 148 2 (.bipush 8) := ⟨by decide +kernel, rfl⟩
theorem d_X12_expression_148 : kf_dq cX12_expression 148 151 3 (.invokevirtual 221) := ⟨by decide +kernel, rfl⟩
theorem d_X12_expression_151 : kf_dj cX12_expression 151 154 181 (.ifCond .ne) := ⟨30, by decide +kernel, rfl, by decide⟩
theorem d_X12_expression_154 : kf_dq cX12_expression 154 155 1 (.aload_n 0) := ⟨by decide +kernel, rfl⟩
theorem d_X12_expression_155 : kf_dq cX12_expression 155 157 2 (.bipush 9) := ⟨by decide +kernel, rfl⟩
theorem d_X12_expression_157 : kf_dq cX12_expression 157 160 3 (.invokevirtual 221) := ⟨by decide +kernel, rfl⟩
theorem d_X12_expression_160 : kf_dj cX12_expression 160 163 181 (.ifCond .ne) := ⟨21, by decide +kernel, rfl, by decide⟩
theorem d_X12_expression_163 : kf_dq cX12_expression 163 164 1 (.aload_n 0) := ⟨by decide +kernel, rfl⟩
theorem d_X12_expression_164 : kf_dq cX12_expression 164 166 2 (.bipush 10) := ⟨by decide +kernel, rfl⟩
theorem d_X12_expression_166 : kf_dq cX12_expression 166 169 3 (.invokevirtual 221) := ⟨by decide +kernel, rfl⟩
theorem d_X12_expression_169 : kf_dj cX12_expression 169 172 181 (.ifCond .ne) := ⟨12, by decide +kernel, rfl, by decide⟩
theorem d_X12_expression_172 : kf_dq cX12_expression 172 173 1 (.aload_n 0) := ⟨by decide +kernel, rfl⟩
theorem d_X12_expression_173 : kf_dq cX12_expression 173 175 2 (.bipush 15) := ⟨by decide +kernel, rfl⟩
theorem d_X12_expression_175 : kf_dq cX12_expression 175 178 3 (.invokevirtual 221) := ⟨by decide +kernel, rfl⟩
theorem d_X12_expression_178 : kf_dj cX12_expression 178 181 185 (.ifCond .eq) := ⟨7, by decide +kernel, rfl, by decide⟩
theorem d_X12_expression_181 : kf_dq cX12_expression 181 182 1 (.iconst 1) := ⟨by decide +kernel, rfl⟩
theorem d_X12_expression_182 : kf_dj cX12_expression 182 185 186 .goto := ⟨4, by decide +kernel, rfl, by decide⟩
theorem d_X12_expression_185 : kf_dq cX12_expression 185 186 1 (.iconst 0) := ⟨by decide +kernel, rfl⟩
theorem d_X12_expression_186 : kf_dq cX12_expression 186 187 1 (.istore_n 2) := ⟨by decide +kernel, rfl⟩
theorem d_X12_expression_187 : kf_dq cX12_expression 187 188 1 (.iload_n 2) := ⟨by decide +kernel, rfl⟩
theorem d_X12_expression_188 : kf_dj cX12_expression 188 191 210 (.ifCond .ne) := ⟨22, by decide +kernel, rfl, by decide⟩
theorem d_X12_expression_191 : kf_dq cX12_expression 191 192 1 (.aload_n 0) := ⟨by decide +kernel, rfl⟩
theorem d_X12_expression_192 : kf_dq cX12_expression 192 195 3 (.getfield 230) := ⟨by decide +kernel, rfl⟩
theorem d_X12_expression_195 : kf_dq cX12_expression 195 196 1 (.iload_n 1) := ⟨by decide +kernel, rfl⟩
theorem d_X12_expression_196 : kf_dj cX12_expression 196 199 204 (.if_icmp .le) := ⟨8, by decide +kernel, rfl, by decide⟩
theorem d_X12_expression_199 : kf_dq cX12_expression 199 200 1 (.aload_n 0) := ⟨by decide +kernel, rfl⟩
theorem d_X12_expression_200 : kf_dq cX12_expression 200 201 1 (.iconst 1) := ⟨by decide +kernel, rfl⟩
theorem d_X12_expression_201 : kf_dq cX12_expression 201 204 3 (.invokevirtual 218) := ⟨by decide +kernel, rfl⟩
theorem d_X12_expression_204 : kf_dq cX12_expression 204 205 1 (.aload_n 0) := ⟨by decide +kernel, rfl⟩
theorem d_X12_expression_205 : kf_dq cX12_expression 205 206 1 (.iconst 0) := ⟨by decide +kernel, rfl⟩
theorem d_X12_expression_206 : kf_dq cX12_expression 206 209 3 (.invokevirtual 305) := ⟨by decide +kernel, rfl⟩
theorem d_X12_expression_209 : kf_dq cX12_expression 209 210 1 (.return_) := ⟨by decide +kernel, rfl⟩
theorem d_X12_expression_210 : kf_dq cX12_expression 210 211 1 (.aload_n 0) := ⟨by decide +kernel, rfl⟩
theorem d_X12_expression_211 : kf_dq cX12_expression 211 212 1 (.aload_n 0) := ⟨by decide +kernel, rfl⟩
theorem d_X12_expression_212 : kf_dq cX12_expression 212 214 2 (.bipush 10) := ⟨by decide +kernel, rfl⟩
theorem d_X12_expression_214 : kf_dq cX12_expression 214 217 3 (.invokevirtual 221) := ⟨by decide +kernel, rfl⟩
theorem d_X12_expression_217 : kf_dj cX12_expression 217 220 229 (.ifCond .ne) := ⟨12, by decide +kernel, rfl, by decide⟩
theorem d_X12_expression_220 : kf_dq cX12_expression 220 221 1 (.aload_n 0) := ⟨by decide +kernel, rfl⟩
theorem d_X12_expression_221 : kf_dq cX12_expression 221 223 2 (.bipush 15) := ⟨by decide +kernel, rfl⟩
theorem d_X12_expression_223 : kf_dq cX12_expression 223 226 3 (.invokevirtual 221) := ⟨by decide +kernel, rfl⟩
theorem d_X12_expression_226 : kf_dj cX12_expression 226 229 233 (.ifCond .eq) := ⟨7, by decide +kernel, rfl, by decide⟩
theorem d_X12_expression_229 : kf_dq cX12_expression 229 230 1 (.iconst 1) := ⟨by decide +kernel, rfl⟩
theorem d_X12_expression_230 : kf_dj cX12_expression 230 233 234 .goto := ⟨4, by decide +kernel, rfl, by decide⟩
theorem d_X12_expression_233 : kf_dq cX12_expression 233 234 1 (.iconst 0) := ⟨by decide +kernel, rfl⟩
theorem d_X12_expression_234 : kf_dq cX12_expression 234 237 3 (.invokevirtual 305) := ⟨by decide +kernel, rfl⟩
theorem d_X12_expression_237 : kf_dq cX12_expression 237 238 1 (.aload_n 0) := ⟨by decide +kernel, rfl⟩
theorem d_X12_expression_238 : kf_dq cX12_expression 238 241 3 (.getfield 110) := ⟨by decide +kernel, rfl⟩
theorem d_X12_expression_241 : kf_dq cX12_expression 241 242 1 (.aload_n 0) := ⟨by decide +kernel, rfl⟩
theorem d_X12_expression_242 : kf_dq cX12_expression 242 245 3 (.getfield 296) := ⟨by decide +kernel, rfl⟩
theorem d_X12_expression_245 : kf_dq cX12_expression 245 246 1 (.aload_n 0) := ⟨by decide +kernel, rfl⟩
theorem d_X12_expression_246 : kf_dq cX12_expression 246 249 3 (.getfield 20) := ⟨by decide +kernel, rfl⟩
theorem d_X12_expression_249 : kf_dq cX12_expression 249 250 1 (.aload_n 0) := ⟨by decide +kernel, rfl⟩
theorem d_X12_expression_250 : kf_dq cX12_expression 250 253 3 (.getfield 206) := ⟨by decide +kernel, rfl⟩
theorem d_X12_expression_253 : kf_dq cX12_expression 253 254 1 (.iaload) := ⟨by decide +kernel, rfl⟩
theorem d_X12_expression_254 : kf_dq cX12_expression 254 255 1 (.iastore) := ⟨by decide +kernel, rfl⟩
theorem d_X12_expression_255 : kf_dq cX12_expression 255 256 1 (.aload_n 0) := ⟨by decide +kernel, rfl⟩
theorem d_X12_expression_256 : kf_dq cX12_expression 256 257 1 (.dup) := ⟨by decide +kernel, rfl⟩
theorem d_X12_expression_257 : kf_dq cX12_expression 257 260 3 (.getfield 296) := ⟨by decide +kernel, rfl⟩
theorem d_X12_expression_260 : kf_dq cX12_expression 260 261 1 (.iconst 1) := ⟨by decide +kernel, rfl⟩
theorem d_X12_expression_261 : kf_dq cX12_expression 261 262 1 (.iadd) := ⟨by decide +kernel, rfl⟩
theorem d_X12_expression_262 : kf_dq cX12_expression 262 265 3 (.putfield 296) := ⟨by decide +kernel, rfl⟩
theorem d_X12_expression_265 : kf_dq cX12_expression 265 266 1 (.aload_n 0) := ⟨by decide +kernel, rfl⟩
theorem d_X12_expression_266 : kf_dq cX12_expression 266 269 3 (.invokevirtual 224) := ⟨by decide +kernel, rfl⟩
theorem d_X12_expression_269 : kf_dj cX12_expression 269 272 12 .goto := ⟨(-257), by decide +kernel, rfl, by decide⟩
theorem d_X12_expression_272 : kf_dq cX12_expression 272 273 1 (.return_) := ⟨by decide +kernel, rfl⟩
def f_X12_expression_234 (rec12 : Nat → Int32 → Int32 → kf_St → Option kf_St) (v0 : Nat) (v1 : Int32) (v2 : Int32) (s0 : Nat) (s1 : Int32) (σ : kf_St) : Option kf_St :=
  (f_X12_comesOut s0 s1 σ).bind fun q_1 =>
  if kf_ix (q_1.1 v0 11) (kf_ln (kf_rf v0 5)) = true then
  if kf_ix (q_1.1 v0 47) (kf_ln (kf_rf v0 46)) = true then
  kf_lt (kf_wi q_1 (kf_rf v0 46) (Int32.toNatClampNeg (q_1.1 v0 47)) (q_1.1 (kf_rf v0 5) (Int32.toNatClampNeg (q_1.1 v0 11)))) fun σ_4 =>
  kf_lt (kf_wi σ_4 v0 47 ((σ_4.1 v0 47) + 1)) fun σ_5 =>
  (f_X12_goesOn v0 σ_5).bind fun q_6 =>
  rec12 v0 v1 v2 q_6
  else none
  else none
set_option maxRecDepth 100000 in
set_option maxHeartbeats 4000000 in
theorem b_X12_expression_234 {X : kf_X} {G : kf_G} {rec12 : Nat → Int32 → Int32 → kf_St → Option kf_St} {q : kf_St} (E : kf_ok X G cX12_expression RX12 3 none (4)) (hty : kf_wt G) (hrec12 : ∀ (v0 : Nat) (v1 : Int32) (v2 : Int32) (k_v0 : kf_kd G v0 = 13) (σ : kf_St), rec12 v0 v1 v2 σ = some q → kf_WA X G 3 (kf_Q X G none q) 12 [(0, .ref (kf_ad G v0)), (1, .int v1), (2, .int v2)] [] σ) (v0 : Nat) (v1 : Int32) (v2 : Int32) (s0 : Nat) (s1 : Int32) (k_v0 : kf_kd G v0 = 13) (k_s0 : kf_kd G s0 = 13) (σ : kf_St) (h : f_X12_expression_234 rec12 v0 v1 v2 s0 s1 σ = some q) : kf_WA X G 3 (kf_Q X G none q) 234 [(0, .ref (kf_ad G v0)), (1, .int v1), (2, .int v2)] [.int s1, .ref (kf_ad G s0)] σ := by
  unfold f_X12_expression_234 at h
  obtain ⟨q_1, hq_1, h⟩ := kf_bd h
  refine wa_callV (st2 := []) (c_X12_comesOut hty s0 s1 k_s0 σ hq_1) mv_X12_comesOut ml_X12_305 k_s0 rfl (Nat.le_of_ble_eq_true rfl) rfl (Nat.le_of_ble_eq_true rfl) E d_X12_expression_234 rfl ?_
  refine wa_aload_n 0 rfl E d_X12_expression_237 ?_
  refine wa_getR fl_X12_110 k_v0 rfl E d_X12_expression_238 ?_
  refine wa_aload_n 0 rfl E d_X12_expression_241 ?_
  refine wa_getI fl_X12_296 k_v0 rfl E d_X12_expression_242 ?_
  refine wa_aload_n 0 rfl E d_X12_expression_245 ?_
  refine wa_getR fl_X12_20 k_v0 rfl E d_X12_expression_246 ?_
  refine wa_aload_n 0 rfl E d_X12_expression_249 ?_
  refine wa_getI fl_X12_206 k_v0 rfl E d_X12_expression_250 ?_
  obtain ⟨g_2, h⟩ := kf_gd h
  refine wa_iald (kf_wtf hty 5 49 k_v0 (by decide) rfl) g_2 E d_X12_expression_253 ?_
  obtain ⟨g_3, h⟩ := kf_gd h
  obtain ⟨σ_4, eσ_4, h⟩ := kf_lte h
  refine wa_iast (kf_wtf hty 46 49 k_v0 (by decide) rfl) g_3 E d_X12_expression_254 eσ_4 ?_
  refine wa_aload_n 0 rfl E d_X12_expression_255 ?_
  refine wa_dup rfl E d_X12_expression_256 ?_
  refine wa_getI fl_X12_296 k_v0 rfl E d_X12_expression_257 ?_
  refine wa_iconst 1 ic_1 E d_X12_expression_260 ?_
  refine wa_iadd E d_X12_expression_261 ?_
  obtain ⟨σ_5, eσ_5, h⟩ := kf_lte h
  refine wa_putI fl_X12_296 fp_12_47 k_v0 rfl (by decide) rfl rfl E d_X12_expression_262 eσ_5 ?_
  refine wa_aload_n 0 rfl E d_X12_expression_265 ?_
  obtain ⟨q_6, hq_6, h⟩ := kf_bd h
  refine wa_callV (st2 := []) (c_X12_goesOn hty v0 k_v0 σ_5 hq_6) mv_X12_goesOn ml_X12_224 k_v0 rfl (Nat.le_of_ble_eq_true rfl) rfl (Nat.le_of_ble_eq_true rfl) E d_X12_expression_266 rfl ?_
  refine wa_goto E d_X12_expression_269 ?_
  exact hrec12 v0 v1 v2 k_v0 q_6 h
def f_X12_expression_204 (v0 : Nat) (σ : kf_St) : Option kf_St :=
  (f_X12_comesOut v0 0 σ).bind fun q_1 =>
  some q_1
set_option maxRecDepth 100000 in
set_option maxHeartbeats 4000000 in
theorem b_X12_expression_204 {X : kf_X} {G : kf_G} {q : kf_St} (E : kf_ok X G cX12_expression RX12 3 none (4)) (hty : kf_wt G) (v0 : Nat) (k_v0 : kf_kd G v0 = 13) (σ : kf_St) (h : f_X12_expression_204 v0 σ = some q) : kf_WA X G 3 (kf_Q X G none q) 204 [(0, .ref (kf_ad G v0))] [] σ := by
  unfold f_X12_expression_204 at h
  refine wa_aload_n 0 rfl E d_X12_expression_204 ?_
  refine wa_iconst 0 ic_0 E d_X12_expression_205 ?_
  obtain ⟨q_1, hq_1, h⟩ := kf_bd h
  refine wa_callV (st2 := []) (c_X12_comesOut hty v0 0 k_v0 σ hq_1) mv_X12_comesOut ml_X12_305 k_v0 rfl (Nat.le_of_ble_eq_true rfl) rfl (Nat.le_of_ble_eq_true rfl) E d_X12_expression_206 rfl ?_
  cases h
  exact wa_vret E d_X12_expression_209
def f_X12_expression_186 (rec12 : Nat → Int32 → Int32 → kf_St → Option kf_St) (v0 : Nat) (v1 : Int32) (s0 : Int32) (σ : kf_St) : Option kf_St :=
  if s0 = 0 then
    if (σ.1 v0 12) ≤ v1 then
      f_X12_expression_204 v0 σ
    else
      (f_X12_fail v0 1 σ).bind fun q_7 =>
      f_X12_expression_204 v0 q_7
  else
    (f_X12_is v0 10 σ).bind fun q_2 =>
    if q_2.1 = 0 then
      (f_X12_is v0 15 q_2.2).bind fun q_4 =>
      if q_4.1 = 0 then
        f_X12_expression_234 rec12 v0 v1 s0 v0 0 q_4.2
      else
        f_X12_expression_234 rec12 v0 v1 s0 v0 1 q_4.2
    else
      f_X12_expression_234 rec12 v0 v1 s0 v0 1 q_2.2
set_option maxRecDepth 100000 in
set_option maxHeartbeats 4000000 in
theorem b_X12_expression_186 {X : kf_X} {G : kf_G} {rec12 : Nat → Int32 → Int32 → kf_St → Option kf_St} {q : kf_St} (E : kf_ok X G cX12_expression RX12 3 none (4)) (hty : kf_wt G) (hrec12 : ∀ (v0 : Nat) (v1 : Int32) (v2 : Int32) (k_v0 : kf_kd G v0 = 13) (σ : kf_St), rec12 v0 v1 v2 σ = some q → kf_WA X G 3 (kf_Q X G none q) 12 [(0, .ref (kf_ad G v0)), (1, .int v1), (2, .int v2)] [] σ) (v0 : Nat) (v1 : Int32) (s0 : Int32) (k_v0 : kf_kd G v0 = 13) (σ : kf_St) (h : f_X12_expression_186 rec12 v0 v1 s0 σ = some q) : kf_WA X G 3 (kf_Q X G none q) 186 [(0, .ref (kf_ad G v0)), (1, .int v1)] [.int s0] σ := by
  unfold f_X12_expression_186 at h
  refine wa_istore_n (lv' := [(2, .int s0), (0, .ref (kf_ad G v0)), (1, .int v1)]) rfl (by decide) rfl E d_X12_expression_186 ?_
  refine wa_iload_n 0 rfl E d_X12_expression_187 ?_
  refine wa_if_ne E d_X12_expression_188 (fun c_1 => ?_) (fun c_1 => ?_)
  · replace h := kf_iff c_1 h
    refine wa_aload_n 1 rfl E d_X12_expression_210 ?_
    refine wa_aload_n 1 rfl E d_X12_expression_211 ?_
    refine wa_bipush 10 bp_10 E d_X12_expression_212 ?_
    obtain ⟨q_2, hq_2, h⟩ := kf_bd h
    refine wa_callV (st2 := [.int q_2.1, .ref (kf_ad G v0)]) (c_X12_is hty v0 10 k_v0 σ hq_2) mv_X12_is ml_X12_221 k_v0 rfl (Nat.le_of_ble_eq_true rfl) rfl (Nat.le_of_ble_eq_true rfl) E d_X12_expression_214 rfl ?_
    refine wa_if_ne E d_X12_expression_217 (fun c_3 => ?_) (fun c_3 => ?_)
    · replace h := kf_iff c_3 h
      refine wa_iconst 1 ic_1 E d_X12_expression_229 ?_
      refine wa_goto E d_X12_expression_230 ?_
      refine wa_sub [1, 2, 0] rfl ?_
      exact b_X12_expression_234 E hty hrec12 v0 v1 s0 v0 1 k_v0 k_v0 q_2.2 h
    · replace h := kf_ift c_3 h
      refine wa_aload_n 1 rfl E d_X12_expression_220 ?_
      refine wa_bipush 15 bp_15 E d_X12_expression_221 ?_
      obtain ⟨q_4, hq_4, h⟩ := kf_bd h
      refine wa_callV (st2 := [.int q_4.1, .ref (kf_ad G v0)]) (c_X12_is hty v0 15 k_v0 q_2.2 hq_4) mv_X12_is ml_X12_221 k_v0 rfl (Nat.le_of_ble_eq_true rfl) rfl (Nat.le_of_ble_eq_true rfl) E d_X12_expression_223 rfl ?_
      refine wa_if_eq E d_X12_expression_226 (fun c_5 => ?_) (fun c_5 => ?_)
      · replace h := kf_ift c_5 h
        refine wa_iconst 0 ic_0 E d_X12_expression_233 ?_
        refine wa_sub [1, 2, 0] rfl ?_
        exact b_X12_expression_234 E hty hrec12 v0 v1 s0 v0 0 k_v0 k_v0 q_4.2 h
      · replace h := kf_iff c_5 h
        refine wa_iconst 1 ic_1 E d_X12_expression_229 ?_
        refine wa_goto E d_X12_expression_230 ?_
        refine wa_sub [1, 2, 0] rfl ?_
        exact b_X12_expression_234 E hty hrec12 v0 v1 s0 v0 1 k_v0 k_v0 q_4.2 h
  · replace h := kf_ift c_1 h
    refine wa_aload_n 1 rfl E d_X12_expression_191 ?_
    refine wa_getI fl_X12_230 k_v0 rfl E d_X12_expression_192 ?_
    refine wa_iload_n 2 rfl E d_X12_expression_195 ?_
    refine wa_icmp_le E d_X12_expression_196 (fun c_6 => ?_) (fun c_6 => ?_)
    · replace h := kf_ift c_6 h
      refine wa_sub [1] rfl ?_
      exact b_X12_expression_204 E hty v0 k_v0 σ h
    · replace h := kf_iff c_6 h
      refine wa_aload_n 1 rfl E d_X12_expression_199 ?_
      refine wa_iconst 1 ic_1 E d_X12_expression_200 ?_
      obtain ⟨q_7, hq_7, h⟩ := kf_bd h
      refine wa_callV (st2 := []) (c_X12_fail hty v0 1 k_v0 σ hq_7) mv_X12_fail ml_X12_218 k_v0 rfl (Nat.le_of_ble_eq_true rfl) rfl (Nat.le_of_ble_eq_true rfl) E d_X12_expression_201 rfl ?_
      refine wa_sub [1] rfl ?_
      exact b_X12_expression_204 E hty v0 k_v0 q_7 h
def f_X12_expression_145 (rec12 : Nat → Int32 → Int32 → kf_St → Option kf_St) (v0 : Nat) (v1 : Int32) (σ : kf_St) : Option kf_St :=
  (f_X12_is v0 8 σ).bind fun q_1 =>
  if q_1.1 = 0 then
    (f_X12_is v0 9 q_1.2).bind fun q_3 =>
    if q_3.1 = 0 then
      (f_X12_is v0 10 q_3.2).bind fun q_5 =>
      if q_5.1 = 0 then
        (f_X12_is v0 15 q_5.2).bind fun q_7 =>
        if q_7.1 = 0 then
          f_X12_expression_186 rec12 v0 v1 0 q_7.2
        else
          f_X12_expression_186 rec12 v0 v1 1 q_7.2
      else
        f_X12_expression_186 rec12 v0 v1 1 q_5.2
    else
      f_X12_expression_186 rec12 v0 v1 1 q_3.2
  else
    f_X12_expression_186 rec12 v0 v1 1 q_1.2
set_option maxRecDepth 100000 in
set_option maxHeartbeats 4000000 in
theorem b_X12_expression_145 {X : kf_X} {G : kf_G} {rec12 : Nat → Int32 → Int32 → kf_St → Option kf_St} {q : kf_St} (E : kf_ok X G cX12_expression RX12 3 none (4)) (hty : kf_wt G) (hrec12 : ∀ (v0 : Nat) (v1 : Int32) (v2 : Int32) (k_v0 : kf_kd G v0 = 13) (σ : kf_St), rec12 v0 v1 v2 σ = some q → kf_WA X G 3 (kf_Q X G none q) 12 [(0, .ref (kf_ad G v0)), (1, .int v1), (2, .int v2)] [] σ) (v0 : Nat) (v1 : Int32) (k_v0 : kf_kd G v0 = 13) (σ : kf_St) (h : f_X12_expression_145 rec12 v0 v1 σ = some q) : kf_WA X G 3 (kf_Q X G none q) 145 [(0, .ref (kf_ad G v0)), (1, .int v1)] [] σ := by
  unfold f_X12_expression_145 at h
  refine wa_aload_n 0 rfl E d_X12_expression_145 ?_
  refine wa_bipush 8 bp_8 E d_X12_expression_146 ?_
  obtain ⟨q_1, hq_1, h⟩ := kf_bd h
  refine wa_callV (st2 := [.int q_1.1]) (c_X12_is hty v0 8 k_v0 σ hq_1) mv_X12_is ml_X12_221 k_v0 rfl (Nat.le_of_ble_eq_true rfl) rfl (Nat.le_of_ble_eq_true rfl) E d_X12_expression_148 rfl ?_
  refine wa_if_ne E d_X12_expression_151 (fun c_2 => ?_) (fun c_2 => ?_)
  · replace h := kf_iff c_2 h
    refine wa_iconst 1 ic_1 E d_X12_expression_181 ?_
    refine wa_goto E d_X12_expression_182 ?_
    exact b_X12_expression_186 E hty hrec12 v0 v1 1 k_v0 q_1.2 h
  · replace h := kf_ift c_2 h
    refine wa_aload_n 0 rfl E d_X12_expression_154 ?_
    refine wa_bipush 9 bp_9 E d_X12_expression_155 ?_
    obtain ⟨q_3, hq_3, h⟩ := kf_bd h
    refine wa_callV (st2 := [.int q_3.1]) (c_X12_is hty v0 9 k_v0 q_1.2 hq_3) mv_X12_is ml_X12_221 k_v0 rfl (Nat.le_of_ble_eq_true rfl) rfl (Nat.le_of_ble_eq_true rfl) E d_X12_expression_157 rfl ?_
    refine wa_if_ne E d_X12_expression_160 (fun c_4 => ?_) (fun c_4 => ?_)
    · replace h := kf_iff c_4 h
      refine wa_iconst 1 ic_1 E d_X12_expression_181 ?_
      refine wa_goto E d_X12_expression_182 ?_
      exact b_X12_expression_186 E hty hrec12 v0 v1 1 k_v0 q_3.2 h
    · replace h := kf_ift c_4 h
      refine wa_aload_n 0 rfl E d_X12_expression_163 ?_
      refine wa_bipush 10 bp_10 E d_X12_expression_164 ?_
      obtain ⟨q_5, hq_5, h⟩ := kf_bd h
      refine wa_callV (st2 := [.int q_5.1]) (c_X12_is hty v0 10 k_v0 q_3.2 hq_5) mv_X12_is ml_X12_221 k_v0 rfl (Nat.le_of_ble_eq_true rfl) rfl (Nat.le_of_ble_eq_true rfl) E d_X12_expression_166 rfl ?_
      refine wa_if_ne E d_X12_expression_169 (fun c_6 => ?_) (fun c_6 => ?_)
      · replace h := kf_iff c_6 h
        refine wa_iconst 1 ic_1 E d_X12_expression_181 ?_
        refine wa_goto E d_X12_expression_182 ?_
        exact b_X12_expression_186 E hty hrec12 v0 v1 1 k_v0 q_5.2 h
      · replace h := kf_ift c_6 h
        refine wa_aload_n 0 rfl E d_X12_expression_172 ?_
        refine wa_bipush 15 bp_15 E d_X12_expression_173 ?_
        obtain ⟨q_7, hq_7, h⟩ := kf_bd h
        refine wa_callV (st2 := [.int q_7.1]) (c_X12_is hty v0 15 k_v0 q_5.2 hq_7) mv_X12_is ml_X12_221 k_v0 rfl (Nat.le_of_ble_eq_true rfl) rfl (Nat.le_of_ble_eq_true rfl) E d_X12_expression_175 rfl ?_
        refine wa_if_eq E d_X12_expression_178 (fun c_8 => ?_) (fun c_8 => ?_)
        · replace h := kf_ift c_8 h
          refine wa_iconst 0 ic_0 E d_X12_expression_185 ?_
          exact b_X12_expression_186 E hty hrec12 v0 v1 0 k_v0 q_7.2 h
        · replace h := kf_iff c_8 h
          refine wa_iconst 1 ic_1 E d_X12_expression_181 ?_
          refine wa_goto E d_X12_expression_182 ?_
          exact b_X12_expression_186 E hty hrec12 v0 v1 1 k_v0 q_7.2 h
def f_X12_expression_96_s (rec12 : Nat → Int32 → Int32 → kf_St → Option kf_St) (rec96 : Nat → Int32 → kf_St → Option kf_St) (v0 : Nat) (v1 : Int32) (σ : kf_St) : Option kf_St :=
  (f_X12_is v0 7 σ).bind fun q_1 =>
  if q_1.1 = 0 then
    f_X12_expression_145 rec12 v0 v1 q_1.2
  else
    if (q_1.2.1 v0 12) ≤ v1 then
      f_X12_expression_145 rec12 v0 v1 q_1.2
    else
      (f_X12_comesOut v0 0 q_1.2).bind fun q_4 =>
      kf_lt (kf_wi q_4 v0 47 ((q_4.1 v0 47) - 1)) fun σ_5 =>
      kf_lt (kf_wi σ_5 v0 12 ((σ_5.1 v0 12) - 1)) fun σ_6 =>
      (f_X12_goesOn v0 σ_6).bind fun q_7 =>
      rec96 v0 v1 q_7
def f_X12_expression_96 (rec12 : Nat → Int32 → Int32 → kf_St → Option kf_St) : Nat → Nat → Int32 → kf_St → Option kf_St
  | 0, _, _, _ => none
  | n + 1, v0, v1, σ => f_X12_expression_96_s rec12 (f_X12_expression_96 rec12 n) v0 v1 σ
set_option maxRecDepth 100000 in
set_option maxHeartbeats 4000000 in
theorem b_X12_expression_96_s {X : kf_X} {G : kf_G} {rec12 : Nat → Int32 → Int32 → kf_St → Option kf_St} (rec96 : Nat → Int32 → kf_St → Option kf_St) {q : kf_St} (E : kf_ok X G cX12_expression RX12 3 none (4)) (hty : kf_wt G) (hrec12 : ∀ (v0 : Nat) (v1 : Int32) (v2 : Int32) (k_v0 : kf_kd G v0 = 13) (σ : kf_St), rec12 v0 v1 v2 σ = some q → kf_WA X G 3 (kf_Q X G none q) 12 [(0, .ref (kf_ad G v0)), (1, .int v1), (2, .int v2)] [] σ) (hrec96 : ∀ (v0 : Nat) (v1 : Int32) (k_v0 : kf_kd G v0 = 13) (σ : kf_St), rec96 v0 v1 σ = some q → kf_WA X G 3 (kf_Q X G none q) 96 [(0, .ref (kf_ad G v0)), (1, .int v1)] [] σ) (v0 : Nat) (v1 : Int32) (k_v0 : kf_kd G v0 = 13) (σ : kf_St) (h : f_X12_expression_96_s rec12 rec96 v0 v1 σ = some q) : kf_WA X G 3 (kf_Q X G none q) 96 [(0, .ref (kf_ad G v0)), (1, .int v1)] [] σ := by
  unfold f_X12_expression_96_s at h
  refine wa_aload_n 0 rfl E d_X12_expression_96 ?_
  refine wa_bipush 7 bp_7 E d_X12_expression_97 ?_
  obtain ⟨q_1, hq_1, h⟩ := kf_bd h
  refine wa_callV (st2 := [.int q_1.1]) (c_X12_is hty v0 7 k_v0 σ hq_1) mv_X12_is ml_X12_221 k_v0 rfl (Nat.le_of_ble_eq_true rfl) rfl (Nat.le_of_ble_eq_true rfl) E d_X12_expression_99 rfl ?_
  refine wa_if_eq E d_X12_expression_102 (fun c_2 => ?_) (fun c_2 => ?_)
  · replace h := kf_ift c_2 h
    exact b_X12_expression_145 E hty hrec12 v0 v1 k_v0 q_1.2 h
  · replace h := kf_iff c_2 h
    refine wa_aload_n 0 rfl E d_X12_expression_105 ?_
    refine wa_getI fl_X12_230 k_v0 rfl E d_X12_expression_106 ?_
    refine wa_iload_n 1 rfl E d_X12_expression_109 ?_
    refine wa_icmp_le E d_X12_expression_110 (fun c_3 => ?_) (fun c_3 => ?_)
    · replace h := kf_ift c_3 h
      exact b_X12_expression_145 E hty hrec12 v0 v1 k_v0 q_1.2 h
    · replace h := kf_iff c_3 h
      refine wa_aload_n 0 rfl E d_X12_expression_113 ?_
      refine wa_iconst 0 ic_0 E d_X12_expression_114 ?_
      obtain ⟨q_4, hq_4, h⟩ := kf_bd h
      refine wa_callV (st2 := []) (c_X12_comesOut hty v0 0 k_v0 q_1.2 hq_4) mv_X12_comesOut ml_X12_305 k_v0 rfl (Nat.le_of_ble_eq_true rfl) rfl (Nat.le_of_ble_eq_true rfl) E d_X12_expression_115 rfl ?_
      refine wa_aload_n 0 rfl E d_X12_expression_118 ?_
      refine wa_dup rfl E d_X12_expression_119 ?_
      refine wa_getI fl_X12_296 k_v0 rfl E d_X12_expression_120 ?_
      refine wa_iconst 1 ic_1 E d_X12_expression_123 ?_
      refine wa_isub E d_X12_expression_124 ?_
      obtain ⟨σ_5, eσ_5, h⟩ := kf_lte h
      refine wa_putI fl_X12_296 fp_12_47 k_v0 rfl (by decide) rfl rfl E d_X12_expression_125 eσ_5 ?_
      refine wa_aload_n 0 rfl E d_X12_expression_128 ?_
      refine wa_dup rfl E d_X12_expression_129 ?_
      refine wa_getI fl_X12_230 k_v0 rfl E d_X12_expression_130 ?_
      refine wa_iconst 1 ic_1 E d_X12_expression_133 ?_
      refine wa_isub E d_X12_expression_134 ?_
      obtain ⟨σ_6, eσ_6, h⟩ := kf_lte h
      refine wa_putI fl_X12_230 fp_12_12 k_v0 rfl (by decide) rfl rfl E d_X12_expression_135 eσ_6 ?_
      refine wa_aload_n 0 rfl E d_X12_expression_138 ?_
      obtain ⟨q_7, hq_7, h⟩ := kf_bd h
      refine wa_callV (st2 := []) (c_X12_goesOn hty v0 k_v0 σ_6 hq_7) mv_X12_goesOn ml_X12_224 k_v0 rfl (Nat.le_of_ble_eq_true rfl) rfl (Nat.le_of_ble_eq_true rfl) E d_X12_expression_139 rfl ?_
      refine wa_goto E d_X12_expression_142 ?_
      exact hrec96 v0 v1 k_v0 q_7 h
theorem b_X12_expression_96 {X : kf_X} {G : kf_G} {rec12 : Nat → Int32 → Int32 → kf_St → Option kf_St} {q : kf_St} (E : kf_ok X G cX12_expression RX12 3 none (4)) (hty : kf_wt G) (hrec12 : ∀ (v0 : Nat) (v1 : Int32) (v2 : Int32) (k_v0 : kf_kd G v0 = 13) (σ : kf_St), rec12 v0 v1 v2 σ = some q → kf_WA X G 3 (kf_Q X G none q) 12 [(0, .ref (kf_ad G v0)), (1, .int v1), (2, .int v2)] [] σ) : ∀ (N : Nat) (v0 : Nat) (v1 : Int32) (k_v0 : kf_kd G v0 = 13) (σ : kf_St) (_ : f_X12_expression_96 rec12 N v0 v1 σ = some q), kf_WA X G 3 (kf_Q X G none q) 96 [(0, .ref (kf_ad G v0)), (1, .int v1)] [] σ
  | 0, _, _, _, _, h => by cases h
  | N + 1, v0, v1, k_v0, σ, h => b_X12_expression_96_s _ E hty hrec12 (b_X12_expression_96 E hty hrec12 N) v0 v1 k_v0 σ h
def f_X12_expression_46 (rec12 : Nat → Int32 → Int32 → kf_St → Option kf_St) (rec23 : Nat → Int32 → kf_St → Option kf_St) (v0 : Nat) (v1 : Int32) (σ : kf_St) : Option kf_St :=
  kf_lt (kf_wi σ v0 12 ((σ.1 v0 12) + 1)) fun σ_1 =>
  (f_X12_goesOn v0 σ_1).bind fun q_2 =>
  if kf_ix (q_2.1 v0 47) (kf_ln (kf_rf v0 46)) = true then
  kf_lt (kf_wi q_2 (kf_rf v0 46) (Int32.toNatClampNeg (q_2.1 v0 47)) 6) fun σ_4 =>
  kf_lt (kf_wi σ_4 v0 47 ((σ_4.1 v0 47) + 1)) fun σ_5 =>
  rec23 v0 v1 σ_5
  else none
set_option maxRecDepth 100000 in
set_option maxHeartbeats 4000000 in
theorem b_X12_expression_46 {X : kf_X} {G : kf_G} {rec12 : Nat → Int32 → Int32 → kf_St → Option kf_St} {rec23 : Nat → Int32 → kf_St → Option kf_St} {q : kf_St} (E : kf_ok X G cX12_expression RX12 3 none (4)) (hty : kf_wt G) (hrec12 : ∀ (v0 : Nat) (v1 : Int32) (v2 : Int32) (k_v0 : kf_kd G v0 = 13) (σ : kf_St), rec12 v0 v1 v2 σ = some q → kf_WA X G 3 (kf_Q X G none q) 12 [(0, .ref (kf_ad G v0)), (1, .int v1), (2, .int v2)] [] σ) (hrec23 : ∀ (v0 : Nat) (v1 : Int32) (k_v0 : kf_kd G v0 = 13) (σ : kf_St), rec23 v0 v1 σ = some q → kf_WA X G 3 (kf_Q X G none q) 23 [(0, .ref (kf_ad G v0)), (1, .int v1)] [] σ) (v0 : Nat) (v1 : Int32) (k_v0 : kf_kd G v0 = 13) (σ : kf_St) (h : f_X12_expression_46 rec12 rec23 v0 v1 σ = some q) : kf_WA X G 3 (kf_Q X G none q) 46 [(0, .ref (kf_ad G v0)), (1, .int v1)] [] σ := by
  unfold f_X12_expression_46 at h
  refine wa_aload_n 0 rfl E d_X12_expression_46 ?_
  refine wa_dup rfl E d_X12_expression_47 ?_
  refine wa_getI fl_X12_230 k_v0 rfl E d_X12_expression_48 ?_
  refine wa_iconst 1 ic_1 E d_X12_expression_51 ?_
  refine wa_iadd E d_X12_expression_52 ?_
  obtain ⟨σ_1, eσ_1, h⟩ := kf_lte h
  refine wa_putI fl_X12_230 fp_12_12 k_v0 rfl (by decide) rfl rfl E d_X12_expression_53 eσ_1 ?_
  refine wa_aload_n 0 rfl E d_X12_expression_56 ?_
  obtain ⟨q_2, hq_2, h⟩ := kf_bd h
  refine wa_callV (st2 := []) (c_X12_goesOn hty v0 k_v0 σ_1 hq_2) mv_X12_goesOn ml_X12_224 k_v0 rfl (Nat.le_of_ble_eq_true rfl) rfl (Nat.le_of_ble_eq_true rfl) E d_X12_expression_57 rfl ?_
  refine wa_aload_n 0 rfl E d_X12_expression_60 ?_
  refine wa_getR fl_X12_110 k_v0 rfl E d_X12_expression_61 ?_
  refine wa_aload_n 0 rfl E d_X12_expression_64 ?_
  refine wa_getI fl_X12_296 k_v0 rfl E d_X12_expression_65 ?_
  refine wa_bipush 6 bp_6 E d_X12_expression_68 ?_
  obtain ⟨g_3, h⟩ := kf_gd h
  obtain ⟨σ_4, eσ_4, h⟩ := kf_lte h
  refine wa_iast (kf_wtf hty 46 49 k_v0 (by decide) rfl) g_3 E d_X12_expression_70 eσ_4 ?_
  refine wa_aload_n 0 rfl E d_X12_expression_71 ?_
  refine wa_dup rfl E d_X12_expression_72 ?_
  refine wa_getI fl_X12_296 k_v0 rfl E d_X12_expression_73 ?_
  refine wa_iconst 1 ic_1 E d_X12_expression_76 ?_
  refine wa_iadd E d_X12_expression_77 ?_
  obtain ⟨σ_5, eσ_5, h⟩ := kf_lte h
  refine wa_putI fl_X12_296 fp_12_47 k_v0 rfl (by decide) rfl rfl E d_X12_expression_78 eσ_5 ?_
  refine wa_goto E d_X12_expression_81 ?_
  exact hrec23 v0 v1 k_v0 σ_5 h
def f_X12_expression_23_s (rec12 : Nat → Int32 → Int32 → kf_St → Option kf_St) (rec23 : Nat → Int32 → kf_St → Option kf_St) (v0 : Nat) (v1 : Int32) (σ : kf_St) : Option kf_St :=
  (f_X12_is v0 6 σ).bind fun q_1 =>
  if q_1.1 = 0 then
    (f_X12_unit v0 q_1.2).bind fun q_3 =>
    if (q_3.1 v0 13) ≤ 0 then
      f_X12_expression_96 rec12 kf_F v0 v1 q_3
    else
      some q_3
  else
    if (q_1.2.1 v0 12) = 6 then
      (f_X12_fail v0 2 q_1.2).bind fun q_6 =>
      f_X12_expression_46 rec12 rec23 v0 v1 q_6
    else
      f_X12_expression_46 rec12 rec23 v0 v1 q_1.2
def f_X12_expression_23 (rec12 : Nat → Int32 → Int32 → kf_St → Option kf_St) : Nat → Nat → Int32 → kf_St → Option kf_St
  | 0, _, _, _ => none
  | n + 1, v0, v1, σ => f_X12_expression_23_s rec12 (f_X12_expression_23 rec12 n) v0 v1 σ
set_option maxRecDepth 100000 in
set_option maxHeartbeats 4000000 in
theorem b_X12_expression_23_s {X : kf_X} {G : kf_G} {rec12 : Nat → Int32 → Int32 → kf_St → Option kf_St} (rec23 : Nat → Int32 → kf_St → Option kf_St) {q : kf_St} (E : kf_ok X G cX12_expression RX12 3 none (4)) (hty : kf_wt G) (hrec12 : ∀ (v0 : Nat) (v1 : Int32) (v2 : Int32) (k_v0 : kf_kd G v0 = 13) (σ : kf_St), rec12 v0 v1 v2 σ = some q → kf_WA X G 3 (kf_Q X G none q) 12 [(0, .ref (kf_ad G v0)), (1, .int v1), (2, .int v2)] [] σ) (hrec23 : ∀ (v0 : Nat) (v1 : Int32) (k_v0 : kf_kd G v0 = 13) (σ : kf_St), rec23 v0 v1 σ = some q → kf_WA X G 3 (kf_Q X G none q) 23 [(0, .ref (kf_ad G v0)), (1, .int v1)] [] σ) (v0 : Nat) (v1 : Int32) (k_v0 : kf_kd G v0 = 13) (σ : kf_St) (h : f_X12_expression_23_s rec12 rec23 v0 v1 σ = some q) : kf_WA X G 3 (kf_Q X G none q) 23 [(0, .ref (kf_ad G v0)), (1, .int v1)] [] σ := by
  unfold f_X12_expression_23_s at h
  refine wa_aload_n 0 rfl E d_X12_expression_23 ?_
  refine wa_bipush 6 bp_6 E d_X12_expression_24 ?_
  obtain ⟨q_1, hq_1, h⟩ := kf_bd h
  refine wa_callV (st2 := [.int q_1.1]) (c_X12_is hty v0 6 k_v0 σ hq_1) mv_X12_is ml_X12_221 k_v0 rfl (Nat.le_of_ble_eq_true rfl) rfl (Nat.le_of_ble_eq_true rfl) E d_X12_expression_26 rfl ?_
  refine wa_if_eq E d_X12_expression_29 (fun c_2 => ?_) (fun c_2 => ?_)
  · replace h := kf_ift c_2 h
    refine wa_aload_n 0 rfl E d_X12_expression_84 ?_
    obtain ⟨q_3, hq_3, h⟩ := kf_bd h
    refine wa_callV (st2 := []) (c_X12_unit hty v0 k_v0 q_1.2 hq_3) mv_X12_unit ml_X12_302 k_v0 rfl (Nat.le_of_ble_eq_true rfl) rfl (Nat.le_of_ble_eq_true rfl) E d_X12_expression_85 rfl ?_
    refine wa_aload_n 0 rfl E d_X12_expression_88 ?_
    refine wa_getI fl_X12_203 k_v0 rfl E d_X12_expression_89 ?_
    refine wa_if_le E d_X12_expression_92 (fun c_4 => ?_) (fun c_4 => ?_)
    · replace h := kf_ift c_4 h
      exact b_X12_expression_96 E hty hrec12 kf_F v0 v1 k_v0 q_3 h
    · replace h := kf_iff c_4 h
      cases h
      exact wa_vret E d_X12_expression_95
  · replace h := kf_iff c_2 h
    refine wa_aload_n 0 rfl E d_X12_expression_32 ?_
    refine wa_getI fl_X12_230 k_v0 rfl E d_X12_expression_33 ?_
    refine wa_bipush 6 bp_6 E d_X12_expression_36 ?_
    refine wa_icmp_ne E d_X12_expression_38 (fun c_5 => ?_) (fun c_5 => ?_)
    · replace h := kf_iff c_5 h
      exact b_X12_expression_46 E hty hrec12 hrec23 v0 v1 k_v0 q_1.2 h
    · replace h := kf_ift c_5 h
      refine wa_aload_n 0 rfl E d_X12_expression_41 ?_
      refine wa_iconst 2 ic_2 E d_X12_expression_42 ?_
      obtain ⟨q_6, hq_6, h⟩ := kf_bd h
      refine wa_callV (st2 := []) (c_X12_fail hty v0 2 k_v0 q_1.2 hq_6) mv_X12_fail ml_X12_218 k_v0 rfl (Nat.le_of_ble_eq_true rfl) rfl (Nat.le_of_ble_eq_true rfl) E d_X12_expression_43 rfl ?_
      exact b_X12_expression_46 E hty hrec12 hrec23 v0 v1 k_v0 q_6 h
theorem b_X12_expression_23 {X : kf_X} {G : kf_G} {rec12 : Nat → Int32 → Int32 → kf_St → Option kf_St} {q : kf_St} (E : kf_ok X G cX12_expression RX12 3 none (4)) (hty : kf_wt G) (hrec12 : ∀ (v0 : Nat) (v1 : Int32) (v2 : Int32) (k_v0 : kf_kd G v0 = 13) (σ : kf_St), rec12 v0 v1 v2 σ = some q → kf_WA X G 3 (kf_Q X G none q) 12 [(0, .ref (kf_ad G v0)), (1, .int v1), (2, .int v2)] [] σ) : ∀ (N : Nat) (v0 : Nat) (v1 : Int32) (k_v0 : kf_kd G v0 = 13) (σ : kf_St) (_ : f_X12_expression_23 rec12 N v0 v1 σ = some q), kf_WA X G 3 (kf_Q X G none q) 23 [(0, .ref (kf_ad G v0)), (1, .int v1)] [] σ
  | 0, _, _, _, _, h => by cases h
  | N + 1, v0, v1, k_v0, σ, h => b_X12_expression_23_s _ E hty hrec12 (b_X12_expression_23 E hty hrec12 N) v0 v1 k_v0 σ h
def f_X12_expression_12_s (rec12 : Nat → Int32 → Int32 → kf_St → Option kf_St) (v0 : Nat) (v1 : Int32) (v2 : Int32) (σ : kf_St) : Option kf_St :=
  if v2 = 0 then
    some σ
  else
    if (σ.1 v0 13) = 0 then
      f_X12_expression_23 rec12 kf_F v0 v1 σ
    else
      some σ
def f_X12_expression_12 : Nat → Nat → Int32 → Int32 → kf_St → Option kf_St
  | 0, _, _, _, _ => none
  | n + 1, v0, v1, v2, σ => f_X12_expression_12_s (f_X12_expression_12 n) v0 v1 v2 σ
set_option maxRecDepth 100000 in
set_option maxHeartbeats 4000000 in
theorem b_X12_expression_12_s {X : kf_X} {G : kf_G} (rec12 : Nat → Int32 → Int32 → kf_St → Option kf_St) {q : kf_St} (E : kf_ok X G cX12_expression RX12 3 none (4)) (hty : kf_wt G) (hrec12 : ∀ (v0 : Nat) (v1 : Int32) (v2 : Int32) (k_v0 : kf_kd G v0 = 13) (σ : kf_St), rec12 v0 v1 v2 σ = some q → kf_WA X G 3 (kf_Q X G none q) 12 [(0, .ref (kf_ad G v0)), (1, .int v1), (2, .int v2)] [] σ) (v0 : Nat) (v1 : Int32) (v2 : Int32) (k_v0 : kf_kd G v0 = 13) (σ : kf_St) (h : f_X12_expression_12_s rec12 v0 v1 v2 σ = some q) : kf_WA X G 3 (kf_Q X G none q) 12 [(0, .ref (kf_ad G v0)), (1, .int v1), (2, .int v2)] [] σ := by
  unfold f_X12_expression_12_s at h
  refine wa_iload_n 2 rfl E d_X12_expression_12 ?_
  refine wa_if_eq E d_X12_expression_13 (fun c_1 => ?_) (fun c_1 => ?_)
  · replace h := kf_ift c_1 h
    cases h
    exact wa_vret E d_X12_expression_272
  · replace h := kf_iff c_1 h
    refine wa_aload_n 0 rfl E d_X12_expression_16 ?_
    refine wa_getI fl_X12_203 k_v0 rfl E d_X12_expression_17 ?_
    refine wa_if_ne E d_X12_expression_20 (fun c_2 => ?_) (fun c_2 => ?_)
    · replace h := kf_iff c_2 h
      cases h
      exact wa_vret E d_X12_expression_272
    · replace h := kf_ift c_2 h
      refine wa_sub [0, 1] rfl ?_
      exact b_X12_expression_23 E hty hrec12 kf_F v0 v1 k_v0 σ h
theorem b_X12_expression_12 {X : kf_X} {G : kf_G} {q : kf_St} (E : kf_ok X G cX12_expression RX12 3 none (4)) (hty : kf_wt G) : ∀ (N : Nat) (v0 : Nat) (v1 : Int32) (v2 : Int32) (k_v0 : kf_kd G v0 = 13) (σ : kf_St) (_ : f_X12_expression_12 N v0 v1 v2 σ = some q), kf_WA X G 3 (kf_Q X G none q) 12 [(0, .ref (kf_ad G v0)), (1, .int v1), (2, .int v2)] [] σ
  | 0, _, _, _, _, _, h => by cases h
  | N + 1, v0, v1, v2, k_v0, σ, h => b_X12_expression_12_s _ E hty (b_X12_expression_12 E hty N) v0 v1 v2 k_v0 σ h
def f_X12_expression (v0 : Nat) (σ : kf_St) : Option kf_St :=
  kf_lt (kf_wi σ v0 47 0) fun σ_1 =>
  kf_lt ((σ_1.1 v0 12)) fun v1_2 =>
  f_X12_expression_12 kf_F v0 v1_2 1 σ_1
set_option maxRecDepth 100000 in
set_option maxHeartbeats 4000000 in
theorem c_X12_expression {G : kf_G} (hty : kf_wt G) (v0 : Nat) (k_v0 : kf_kd G v0 = 13) (σ : kf_St) {q : kf_St} (h : f_X12_expression v0 σ = some q) : kf_Ct (4) yX12_expression cX12_expression 3 none G [.ref (kf_ad G v0)] σ none q := by
  refine kf_Ct.of hty.1 (lv := [(0, .ref (kf_ad G v0))]) (by decide +kernel) rfl (Nat.le_of_ble_eq_true rfl) (fun X E => ?_)
  unfold f_X12_expression at h
  refine wa_aload_n 0 rfl E d_X12_expression_0 ?_
  refine wa_iconst 0 ic_0 E d_X12_expression_1 ?_
  obtain ⟨σ_1, eσ_1, h⟩ := kf_lte h
  refine wa_putI fl_X12_296 fp_12_47 k_v0 rfl (by decide) rfl rfl E d_X12_expression_2 eσ_1 ?_
  refine wa_aload_n 0 rfl E d_X12_expression_5 ?_
  refine wa_getI fl_X12_230 k_v0 rfl E d_X12_expression_6 ?_
  obtain ⟨v1_2, ev1_2, h⟩ := kf_lte h
  refine wa_topi ev1_2 ?_
  refine wa_istore_n (lv' := [(1, .int v1_2), (0, .ref (kf_ad G v0))]) rfl (by decide) rfl E d_X12_expression_9 ?_
  refine wa_iconst 1 ic_1 E d_X12_expression_10 ?_
  refine wa_istore_n (lv' := [(2, .int 1), (1, .int v1_2), (0, .ref (kf_ad G v0))]) rfl (by decide) rfl E d_X12_expression_11 ?_
  refine wa_sub [2, 1, 0] rfl ?_
  exact b_X12_expression_12 E hty kf_F v0 v1_2 1 k_v0 σ_1 h
/-! X12_term -/
theorem d_X12_term_0 : kf_dq cX12_term 0 1 1 (.aload_n 0) := ⟨by decide +kernel, rfl⟩
theorem d_X12_term_1 : kf_dq cX12_term 1 4 3 (.getfield 98) := ⟨by decide +kernel, rfl⟩
theorem d_X12_term_4 : kf_dq cX12_term 4 5 1 (.aload_n 0) := ⟨by decide +kernel, rfl⟩
theorem d_X12_term_5 : kf_dq cX12_term 5 8 3 (.getfield 242) := ⟨by decide +kernel, rfl⟩
theorem d_X12_term_8 : kf_dq cX12_term 8 9 1 (.aload_n 0) := ⟨by decide +kernel, rfl⟩
theorem d_X12_term_9 : kf_dq cX12_term 9 12 3 (.getfield 245) := ⟨by decide +kernel, rfl⟩
theorem d_X12_term_12 : kf_dq cX12_term 12 13 1 (.iastore) := ⟨by decide +kernel, rfl⟩
theorem d_X12_term_13 : kf_dq cX12_term 13 14 1 (.aload_n 0) := ⟨by decide +kernel, rfl⟩
theorem d_X12_term_14 : kf_dq cX12_term 14 17 3 (.getfield 203) := ⟨by decide +kernel, rfl⟩
theorem d_X12_term_17 : kf_dj cX12_term 17 20 24 (.ifCond .ne) := ⟨7, by decide +kernel, rfl, by decide⟩
theorem d_X12_term_20 : kf_dq cX12_term 20 21 1 (.aload_n 0) := ⟨by decide +kernel, rfl⟩
theorem d_X12_term_21 : kf_dq cX12_term 21 24 3 (.invokevirtual 290) := ⟨by decide +kernel, rfl⟩
theorem d_X12_term_24 : kf_dq cX12_term 24 25 1 (.aload_n 0) := ⟨by decide +kernel, rfl⟩
theorem d_X12_term_25 : kf_dq cX12_term 25 28 3 (.getfield 101) := ⟨by decide +kernel, rfl⟩
theorem d_X12_term_28 : kf_dq cX12_term 28 29 1 (.aload_n 0) := ⟨by decide +kernel, rfl⟩
theorem d_X12_term_29 : kf_dq cX12_term 29 32 3 (.getfield 242) := ⟨by decide +kernel, rfl⟩
theorem d_X12_term_32 : kf_dq cX12_term 32 33 1 (.aload_n 0) := ⟨by decide +kernel, rfl⟩
theorem d_X12_term_33 : kf_dq cX12_term 33 36 3 (.getfield 245) := ⟨by decide +kernel, rfl⟩
theorem d_X12_term_36 : kf_dq cX12_term 36 37 1 (.iastore) := ⟨by decide +kernel, rfl⟩
theorem d_X12_term_37 : kf_dq cX12_term 37 38 1 (.aload_n 0) := ⟨by decide +kernel, rfl⟩
theorem d_X12_term_38 : kf_dq cX12_term 38 39 1 (.dup) := ⟨by decide +kernel, rfl⟩
theorem d_X12_term_39 : kf_dq cX12_term 39 42 3 (.getfield 242) := ⟨by decide +kernel, rfl⟩
theorem d_X12_term_42 : kf_dq cX12_term 42 43 1 (.iconst 1) := ⟨by decide +kernel, rfl⟩
theorem d_X12_term_43 : kf_dq cX12_term 43 44 1 (.iadd) := ⟨by decide +kernel, rfl⟩
theorem d_X12_term_44 : kf_dq cX12_term 44 47 3 (.putfield 242) := ⟨by decide +kernel, rfl⟩
theorem d_X12_term_47 : kf_dq cX12_term 47 48 1 (.return_) := ⟨by decide +kernel, rfl⟩
def f_X12_term_24 (v0 : Nat) (σ : kf_St) : Option kf_St :=
  if kf_ix (σ.1 v0 37) (kf_ln (kf_rf v0 42)) = true then
  kf_lt (kf_wi σ (kf_rf v0 42) (Int32.toNatClampNeg (σ.1 v0 37)) (σ.1 v0 43)) fun σ_2 =>
  kf_lt (kf_wi σ_2 v0 37 ((σ_2.1 v0 37) + 1)) fun σ_3 =>
  some σ_3
  else none
set_option maxRecDepth 100000 in
set_option maxHeartbeats 4000000 in
theorem b_X12_term_24 {X : kf_X} {G : kf_G} {q : kf_St} (E : kf_ok X G cX12_term RX12 1 none (5)) (hty : kf_wt G) (v0 : Nat) (k_v0 : kf_kd G v0 = 13) (σ : kf_St) (h : f_X12_term_24 v0 σ = some q) : kf_WA X G 1 (kf_Q X G none q) 24 [(0, .ref (kf_ad G v0))] [] σ := by
  unfold f_X12_term_24 at h
  refine wa_aload_n 0 rfl E d_X12_term_24 ?_
  refine wa_getR fl_X12_101 k_v0 rfl E d_X12_term_25 ?_
  refine wa_aload_n 0 rfl E d_X12_term_28 ?_
  refine wa_getI fl_X12_242 k_v0 rfl E d_X12_term_29 ?_
  refine wa_aload_n 0 rfl E d_X12_term_32 ?_
  refine wa_getI fl_X12_245 k_v0 rfl E d_X12_term_33 ?_
  obtain ⟨g_1, h⟩ := kf_gd h
  obtain ⟨σ_2, eσ_2, h⟩ := kf_lte h
  refine wa_iast (kf_wtf hty 42 49 k_v0 (by decide) rfl) g_1 E d_X12_term_36 eσ_2 ?_
  refine wa_aload_n 0 rfl E d_X12_term_37 ?_
  refine wa_dup rfl E d_X12_term_38 ?_
  refine wa_getI fl_X12_242 k_v0 rfl E d_X12_term_39 ?_
  refine wa_iconst 1 ic_1 E d_X12_term_42 ?_
  refine wa_iadd E d_X12_term_43 ?_
  obtain ⟨σ_3, eσ_3, h⟩ := kf_lte h
  refine wa_putI fl_X12_242 fp_12_37 k_v0 rfl (by decide) rfl rfl E d_X12_term_44 eσ_3 ?_
  cases h
  exact wa_vret E d_X12_term_47
def f_X12_term (v0 : Nat) (σ : kf_St) : Option kf_St :=
  if kf_ix (σ.1 v0 37) (kf_ln (kf_rf v0 41)) = true then
  kf_lt (kf_wi σ (kf_rf v0 41) (Int32.toNatClampNeg (σ.1 v0 37)) (σ.1 v0 43)) fun σ_2 =>
  if (σ_2.1 v0 13) = 0 then
    (f_X12_expression v0 σ_2).bind fun q_4 =>
    f_X12_term_24 v0 q_4
  else
    f_X12_term_24 v0 σ_2
  else none
set_option maxRecDepth 100000 in
set_option maxHeartbeats 4000000 in
theorem c_X12_term {G : kf_G} (hty : kf_wt G) (v0 : Nat) (k_v0 : kf_kd G v0 = 13) (σ : kf_St) {q : kf_St} (h : f_X12_term v0 σ = some q) : kf_Ct (5) yX12_term cX12_term 1 none G [.ref (kf_ad G v0)] σ none q := by
  refine kf_Ct.of hty.1 (lv := [(0, .ref (kf_ad G v0))]) (by decide +kernel) rfl (Nat.le_of_ble_eq_true rfl) (fun X E => ?_)
  unfold f_X12_term at h
  refine wa_aload_n 0 rfl E d_X12_term_0 ?_
  refine wa_getR fl_X12_98 k_v0 rfl E d_X12_term_1 ?_
  refine wa_aload_n 0 rfl E d_X12_term_4 ?_
  refine wa_getI fl_X12_242 k_v0 rfl E d_X12_term_5 ?_
  refine wa_aload_n 0 rfl E d_X12_term_8 ?_
  refine wa_getI fl_X12_245 k_v0 rfl E d_X12_term_9 ?_
  obtain ⟨g_1, h⟩ := kf_gd h
  obtain ⟨σ_2, eσ_2, h⟩ := kf_lte h
  refine wa_iast (kf_wtf hty 41 49 k_v0 (by decide) rfl) g_1 E d_X12_term_12 eσ_2 ?_
  refine wa_aload_n 0 rfl E d_X12_term_13 ?_
  refine wa_getI fl_X12_203 k_v0 rfl E d_X12_term_14 ?_
  refine wa_if_ne E d_X12_term_17 (fun c_3 => ?_) (fun c_3 => ?_)
  · replace h := kf_iff c_3 h
    exact b_X12_term_24 E hty v0 k_v0 σ_2 h
  · replace h := kf_ift c_3 h
    refine wa_aload_n 0 rfl E d_X12_term_20 ?_
    obtain ⟨q_4, hq_4, h⟩ := kf_bd h
    refine wa_callV (st2 := []) (c_X12_expression hty v0 k_v0 σ_2 hq_4) mv_X12_expression ml_X12_290 k_v0 rfl (Nat.le_of_ble_eq_true rfl) rfl (Nat.le_of_ble_eq_true rfl) E d_X12_term_21 rfl ?_
    exact b_X12_term_24 E hty v0 k_v0 q_4 h
/-! X12_tellLaw -/
theorem d_X12_tellLaw_0 : kf_dq cX12_tellLaw 0 1 1 (.aload_n 0) := ⟨by decide +kernel, rfl⟩
theorem d_X12_tellLaw_1 : kf_dq cX12_tellLaw 1 2 1 (.iconst 5) := ⟨by decide +kernel, rfl⟩
theorem d_X12_tellLaw_2 : kf_dq cX12_tellLaw 2 5 3 (.invokevirtual 261) := ⟨by decide +kernel, rfl⟩
theorem d_X12_tellLaw_5 : kf_dq cX12_tellLaw 5 6 1 (.aload_n 0) := ⟨by decide +kernel, rfl⟩
theorem d_X12_tellLaw_6 : kf_dq cX12_tellLaw 6 9 3 (.getfield 242) := ⟨by decide +kernel, rfl⟩
theorem d_X12_tellLaw_9 : kf_dq cX12_tellLaw 9 10 1 (.istore_n 2) := ⟨by decide +kernel, rfl⟩
theorem d_X12_tellLaw_10 : kf_dq cX12_tellLaw 10 11 1 (.iconst 0) := ⟨by decide +kernel, rfl⟩
theorem d_X12_tellLaw_11 : kf_dq cX12_tellLaw 11 12 1 (.istore_n 3) := ⟨by decide +kernel, rfl⟩
theorem d_X12_tellLaw_12 : kf_dq cX12_tellLaw 12 13 1 (.aload_n 0) := ⟨by decide +kernel, rfl⟩
theorem d_X12_tellLaw_13 : kf_dq cX12_tellLaw 13 16 3 (.getfield 203) := ⟨by decide +kernel, rfl⟩
theorem d_X12_tellLaw_16 : kf_dj cX12_tellLaw 16 19 129 (.ifCond .ne) := ⟨113, by decide +kernel, rfl, by decide⟩
theorem d_X12_tellLaw_19 : kf_dq cX12_tellLaw 19 20 1 (.aload_n 0) := ⟨by decide +kernel, rfl⟩
theorem d_X12_tellLaw_20 : kf_dq cX12_tellLaw 20 22 2 (.bipush 29) := ⟨by decide +kernel, rfl⟩
theorem d_X12_tellLaw_22 : kf_dq cX12_tellLaw 22 25 3 (.invokevirtual 221) := ⟨by decide +kernel, rfl⟩
theorem d_X12_tellLaw_25 : kf_dj cX12_tellLaw 25 28 129 (.ifCond .eq) := ⟨104, by decide +kernel, rfl, by decide⟩
theorem d_X12_tellLaw_28 : kf_dq cX12_tellLaw 28 29 1 (.iload_n 3) := ⟨by decide +kernel, rfl⟩
theorem d_X12_tellLaw_29 : kf_dq cX12_tellLaw 29 30 1 (.iconst 4) := ⟨by decide +kernel, rfl⟩
theorem d_X12_tellLaw_30 : kf_dj cX12_tellLaw 30 33 38 (.if_icmp .ne) := ⟨8, by decide +kernel, rfl, by decide⟩
theorem d_X12_tellLaw_33 : kf_dq cX12_tellLaw 33 34 1 (.aload_n 0) := ⟨by decide +kernel, rfl⟩
theorem d_X12_tellLaw_34 : kf_dq cX12_tellLaw 34 35 1 (.iconst 2) := ⟨by decide +kernel, rfl⟩
theorem d_X12_tellLaw_35 : kf_dq cX12_tellLaw 35 38 3 (.invokevirtual 218) := ⟨by decide +kernel, rfl⟩
theorem d_X12_tellLaw_38 : kf_dq cX12_tellLaw 38 39 1 (.aload_n 0) := ⟨by decide +kernel, rfl⟩
theorem d_X12_tellLaw_39 : kf_dq cX12_tellLaw 39 42 3 (.getfield 203) := ⟨by decide +kernel, rfl⟩
theorem d_X12_tellLaw_42 : kf_dj cX12_tellLaw 42 45 46 (.ifCond .le) := ⟨4, by decide +kernel, rfl, by decide⟩
theorem d_X12_tellLaw_45 : kf_dq cX12_tellLaw 45 46 1 (.return_) := ⟨by decide +kernel, rfl⟩
theorem d_X12_tellLaw_46 : kf_dq cX12_tellLaw 46 49 3 (.iinc 3 1) := ⟨by decide +kernel, rfl⟩
theorem d_X12_tellLaw_49 : kf_dq cX12_tellLaw 49 50 1 (.aload_n 0) := ⟨by decide +kernel, rfl⟩
theorem d_X12_tellLaw_50 : kf_dq cX12_tellLaw 50 53 3 (.invokevirtual 224) := ⟨by decide +kernel, rfl⟩
theorem d_X12_tellLaw_53 : kf_dq cX12_tellLaw 53 54 1 (.aload_n 0) := ⟨by decide +kernel, rfl⟩
theorem d_X12_tellLaw_54 : kf_dq cX12_tellLaw 54 57 3 (.getfield 88) := ⟨by decide +kernel, rfl⟩
theorem d_X12_tellLaw_57 : kf_dq cX12_tellLaw 57 58 1 (.aload_n 0) := ⟨by decide +kernel, rfl⟩
theorem d_X12_tellLaw_58 : kf_dq cX12_tellLaw 58 61 3 (.getfield 242) := ⟨by decide +kernel, rfl⟩
theorem d_X12_tellLaw_61 : kf_dq cX12_tellLaw 61 62 1 (.iconst 1) := ⟨by decide +kernel, rfl⟩
theorem d_X12_tellLaw_62 : kf_dq cX12_tellLaw 62 63 1 (.bastore) := ⟨by decide +kernel, rfl⟩
theorem d_X12_tellLaw_63 : kf_dq cX12_tellLaw 63 64 1 (.aload_n 0) := ⟨by decide +kernel, rfl⟩
theorem d_X12_tellLaw_64 : kf_dq cX12_tellLaw 64 67 3 (.getfield 92) := ⟨by decide +kernel, rfl⟩
theorem d_X12_tellLaw_67 : kf_dq cX12_tellLaw 67 68 1 (.aload_n 0) := ⟨by decide +kernel, rfl⟩
theorem d_X12_tellLaw_68 : kf_dq cX12_tellLaw 68 71 3 (.getfield 242) := ⟨by decide +kernel, rfl⟩
theorem d_X12_tellLaw_71 : kf_dq cX12_tellLaw 71 72 1 (.aload_n 0) := ⟨by decide +kernel, rfl⟩
theorem d_X12_tellLaw_72 : kf_dq cX12_tellLaw 72 75 3 (.getfield 245) := ⟨by decide +kernel, rfl⟩
theorem d_X12_tellLaw_75 : kf_dq cX12_tellLaw 75 76 1 (.iastore) := ⟨by decide +kernel, rfl⟩
theorem d_X12_tellLaw_76 : kf_dq cX12_tellLaw 76 77 1 (.aload_n 0) := ⟨by decide +kernel, rfl⟩
theorem d_X12_tellLaw_77 : kf_dq cX12_tellLaw 77 80 3 (.invokevirtual 290) := ⟨by decide +kernel, rfl⟩
theorem d_X12_tellLaw_80 : kf_dq cX12_tellLaw 80 81 1 (.aload_n 0) := ⟨by decide +kernel, rfl⟩
theorem d_X12_tellLaw_81 : kf_dq cX12_tellLaw 81 83 2 (.bipush 13) := ⟨by decide +kernel, rfl⟩
theorem d_X12_tellLaw_83 : kf_dq cX12_tellLaw 83 86 3 (.invokevirtual 261) := ⟨by decide +kernel, rfl⟩
theorem d_X12_tellLaw_86 : kf_dq cX12_tellLaw 86 87 1 (.aload_n 0) := ⟨by decide +kernel, rfl⟩
theorem d_X12_tellLaw_87 : kf_dq cX12_tellLaw 87 90 3 (.getfield 95) := ⟨by decide +kernel, rfl⟩
theorem d_X12_tellLaw_90 : kf_dq cX12_tellLaw 90 91 1 (.aload_n 0) := ⟨by decide +kernel, rfl⟩
theorem d_X12_tellLaw_91 : kf_dq cX12_tellLaw 91 94 3 (.getfield 242) := ⟨by decide +kernel, rfl⟩
theorem d_X12_tellLaw_94 : kf_dq cX12_tellLaw 94 95 1 (.aload_n 0) := ⟨by decide +kernel, rfl⟩
theorem d_X12_tellLaw_95 : kf_dq cX12_tellLaw 95 98 3 (.getfield 245) := ⟨by decide +kernel, rfl⟩
theorem d_X12_tellLaw_98 : kf_dq cX12_tellLaw 98 99 1 (.iastore) := ⟨by decide +kernel, rfl⟩
theorem d_X12_tellLaw_99 : kf_dq cX12_tellLaw 99 100 1 (.aload_n 0) := ⟨by decide +kernel, rfl⟩
theorem d_X12_tellLaw_100 : kf_dq cX12_tellLaw 100 103 3 (.getfield 203) := ⟨by decide +kernel, rfl⟩
theorem d_X12_tellLaw_103 : kf_dj cX12_tellLaw 103 106 110 (.ifCond .ne) := ⟨7, by decide +kernel, rfl, by decide⟩
theorem d_X12_tellLaw_106 : kf_dq cX12_tellLaw 106 107 1 (.aload_n 0) := ⟨by decide +kernel, rfl⟩
theorem d_X12_tellLaw_107 : kf_dq cX12_tellLaw 107 110 3 (.invokevirtual 290) := ⟨by decide +kernel, rfl⟩
theorem d_X12_tellLaw_110 : kf_dq cX12_tellLaw 110 111 1 (.aload_n 0) := ⟨by decide +kernel, rfl⟩
theorem d_X12_tellLaw_111 : kf_dq cX12_tellLaw 111 113 2 (.bipush 30) := ⟨by decide +kernel, rfl⟩
theorem d_X12_tellLaw_113 : kf_dq cX12_tellLaw 113 116 3 (.invokevirtual 261) := ⟨by decide +kernel, rfl⟩
theorem d_X12_tellLaw_116 : kf_dq cX12_tellLaw 116 117 1 (.aload_n 0) := ⟨by decide +kernel, rfl⟩
theorem d_X12_tellLaw_117 : kf_dq cX12_tellLaw 117 120 3 (.invokevirtual 293) := ⟨by decide +kernel, rfl⟩
theorem d_X12_tellLaw_120 : kf_dq cX12_tellLaw 120 121 1 (.aload_n 0) := ⟨by decide +kernel, rfl⟩
theorem d_X12_tellLaw_121 : kf_dq cX12_tellLaw 121 123 2 (.bipush 31) := ⟨by decide +kernel, rfl⟩
theorem d_X12_tellLaw_123 : kf_dq cX12_tellLaw 123 126 3 (.invokevirtual 261) := ⟨by decide +kernel, rfl⟩
theorem d_X12_tellLaw_126 : kf_dj cX12_tellLaw 126 129 12 .goto := ⟨(-114), by decide +kernel, rfl, by decide⟩
theorem d_X12_tellLaw_129 : kf_dq cX12_tellLaw 129 130 1 (.aload_n 0) := ⟨by decide +kernel, rfl⟩
theorem d_X12_tellLaw_130 : kf_dq cX12_tellLaw 130 133 3 (.getfield 88) := ⟨by decide +kernel, rfl⟩
theorem d_X12_tellLaw_133 : kf_dq cX12_tellLaw 133 134 1 (.aload_n 0) := ⟨by decide +kernel, rfl⟩
theorem d_X12_tellLaw_134 : kf_dq cX12_tellLaw 134 137 3 (.getfield 242) := ⟨by decide +kernel, rfl⟩
theorem d_X12_tellLaw_137 : kf_dq cX12_tellLaw 137 138 1 (.iconst 0) := ⟨by decide +kernel, rfl⟩
theorem d_X12_tellLaw_138 : kf_dq cX12_tellLaw 138 139 1 (.bastore) := ⟨by decide +kernel, rfl⟩
theorem d_X12_tellLaw_139 : kf_dq cX12_tellLaw 139 140 1 (.aload_n 0) := ⟨by decide +kernel, rfl⟩
theorem d_X12_tellLaw_140 : kf_dq cX12_tellLaw 140 143 3 (.invokevirtual 293) := ⟨by decide +kernel, rfl⟩
theorem d_X12_tellLaw_143 : kf_dq cX12_tellLaw 143 144 1 (.aload_n 0) := ⟨by decide +kernel, rfl⟩
theorem d_X12_tellLaw_144 : kf_dq cX12_tellLaw 144 145 1 (.iconst 4) := ⟨by decide +kernel, rfl⟩
theorem d_X12_tellLaw_145 : kf_dq cX12_tellLaw 145 148 3 (.invokevirtual 261) := ⟨by decide +kernel, rfl⟩
theorem d_X12_tellLaw_148 : kf_dq cX12_tellLaw 148 149 1 (.aload_n 0) := ⟨by decide +kernel, rfl⟩
theorem d_X12_tellLaw_149 : kf_dq cX12_tellLaw 149 152 3 (.getfield 203) := ⟨by decide +kernel, rfl⟩
theorem d_X12_tellLaw_152 : kf_dj cX12_tellLaw 152 155 156 (.ifCond .le) := ⟨4, by decide +kernel, rfl, by decide⟩
theorem d_X12_tellLaw_155 : kf_dq cX12_tellLaw 155 156 1 (.return_) := ⟨by decide +kernel, rfl⟩
theorem d_X12_tellLaw_156 : kf_dq cX12_tellLaw 156 157 1 (.aload_n 0) := ⟨by decide +kernel, rfl⟩
theorem d_X12_tellLaw_157 : kf_dq cX12_tellLaw 157 160 3 (.getfield 82) := ⟨by decide +kernel, rfl⟩
theorem d_X12_tellLaw_160 : kf_dq cX12_tellLaw 160 161 1 (.iconst 3) := ⟨by decide +kernel, rfl⟩
theorem d_X12_tellLaw_161 : kf_dq cX12_tellLaw 161 162 1 (.aload_n 0) := ⟨by decide +kernel, rfl⟩
theorem d_X12_tellLaw_162 : kf_dq cX12_tellLaw 162 165 3 (.getfield 236) := ⟨by decide +kernel, rfl⟩
theorem d_X12_tellLaw_165 : kf_dq cX12_tellLaw 165 166 1 (.imul) := ⟨by decide +kernel, rfl⟩
theorem d_X12_tellLaw_166 : kf_dq cX12_tellLaw 166 167 1 (.iload_n 1) := ⟨by decide +kernel, rfl⟩
theorem d_X12_tellLaw_167 : kf_dq cX12_tellLaw 167 168 1 (.iadd) := ⟨by decide +kernel, rfl⟩
theorem d_X12_tellLaw_168 : kf_dq cX12_tellLaw 168 169 1 (.iload_n 2) := ⟨by decide +kernel, rfl⟩
theorem d_X12_tellLaw_169 : kf_dq cX12_tellLaw 169 170 1 (.iastore) := ⟨by decide +kernel, rfl⟩
theorem d_X12_tellLaw_170 : kf_dq cX12_tellLaw 170 171 1 (.aload_n 0) := ⟨by decide +kernel, rfl⟩
theorem d_X12_tellLaw_171 : kf_dq cX12_tellLaw 171 174 3 (.getfield 85) := ⟨by decide +kernel, rfl⟩
theorem d_X12_tellLaw_174 : kf_dq cX12_tellLaw 174 175 1 (.iconst 3) := ⟨by decide +kernel, rfl⟩
theorem d_X12_tellLaw_175 : kf_dq cX12_tellLaw 175 176 1 (.aload_n 0) := ⟨by decide +kernel, rfl⟩
theorem d_X12_tellLaw_176 : kf_dq cX12_tellLaw 176 179 3 (.getfield 236) := ⟨by decide +kernel, rfl⟩
theorem d_X12_tellLaw_179 : kf_dq cX12_tellLaw 179 180 1 (.imul) := ⟨by decide +kernel, rfl⟩
theorem d_X12_tellLaw_180 : kf_dq cX12_tellLaw 180 181 1 (.iload_n 1) := ⟨by decide +kernel, rfl⟩
theorem d_X12_tellLaw_181 : kf_dq cX12_tellLaw 181 182 1 (.iadd) := ⟨by decide +kernel, rfl⟩
theorem d_X12_tellLaw_182 : kf_dq cX12_tellLaw 182 183 1 (.aload_n 0) := ⟨by decide +kernel, rfl⟩
theorem d_X12_tellLaw_183 : kf_dq cX12_tellLaw 183 186 3 (.getfield 242) := ⟨by decide +kernel, rfl⟩
theorem d_X12_tellLaw_186 : kf_dq cX12_tellLaw 186 187 1 (.iastore) := ⟨by decide +kernel, rfl⟩
theorem d_X12_tellLaw_187 : kf_dq cX12_tellLaw 187 188 1 (.return_) := ⟨by decide +kernel, rfl⟩
def f_X12_tellLaw_129 (v0 : Nat) (v1 : Int32) (v2 : Int32) (σ : kf_St) : Option kf_St :=
  if kf_ix (σ.1 v0 37) (kf_ln (kf_rf v0 38)) = true then
  kf_lt (kf_wi σ (kf_rf v0 38) (Int32.toNatClampNeg (σ.1 v0 37)) (vp_nar .boolean 0)) fun σ_2 =>
  (f_X12_term v0 σ_2).bind fun q_3 =>
  (f_X12_must v0 4 q_3).bind fun q_4 =>
  if (q_4.1 v0 13) ≤ 0 then
    if kf_ix ((3 * (q_4.1 v0 19)) + v1) (kf_ln (kf_rf v0 35)) = true then
    kf_lt (kf_wi q_4 (kf_rf v0 35) (Int32.toNatClampNeg ((3 * (q_4.1 v0 19)) + v1)) v2) fun σ_7 =>
    if kf_ix ((3 * (σ_7.1 v0 19)) + v1) (kf_ln (kf_rf v0 36)) = true then
    kf_lt (kf_wi σ_7 (kf_rf v0 36) (Int32.toNatClampNeg ((3 * (σ_7.1 v0 19)) + v1)) (σ_7.1 v0 37)) fun σ_9 =>
    some σ_9
    else none
    else none
  else
    some q_4
  else none
set_option maxRecDepth 100000 in
set_option maxHeartbeats 4000000 in
theorem b_X12_tellLaw_129 {X : kf_X} {G : kf_G} {q : kf_St} (E : kf_ok X G cX12_tellLaw RX12 4 none (6)) (hty : kf_wt G) (v0 : Nat) (v1 : Int32) (v2 : Int32) (k_v0 : kf_kd G v0 = 13) (σ : kf_St) (h : f_X12_tellLaw_129 v0 v1 v2 σ = some q) : kf_WA X G 4 (kf_Q X G none q) 129 [(0, .ref (kf_ad G v0)), (1, .int v1), (2, .int v2)] [] σ := by
  unfold f_X12_tellLaw_129 at h
  refine wa_aload_n 0 rfl E d_X12_tellLaw_129 ?_
  refine wa_getR fl_X12_88 k_v0 rfl E d_X12_tellLaw_130 ?_
  refine wa_aload_n 0 rfl E d_X12_tellLaw_133 ?_
  refine wa_getI fl_X12_242 k_v0 rfl E d_X12_tellLaw_134 ?_
  refine wa_iconst 0 ic_0 E d_X12_tellLaw_137 ?_
  obtain ⟨g_1, h⟩ := kf_gd h
  obtain ⟨σ_2, eσ_2, h⟩ := kf_lte h
  refine wa_zast (kf_wtf hty 38 52 k_v0 (by decide) rfl) g_1 E d_X12_tellLaw_138 eσ_2 ?_
  refine wa_aload_n 0 rfl E d_X12_tellLaw_139 ?_
  obtain ⟨q_3, hq_3, h⟩ := kf_bd h
  refine wa_callV (st2 := []) (c_X12_term hty v0 k_v0 σ_2 hq_3) mv_X12_term ml_X12_293 k_v0 rfl (Nat.le_of_ble_eq_true rfl) rfl (Nat.le_of_ble_eq_true rfl) E d_X12_tellLaw_140 rfl ?_
  refine wa_aload_n 0 rfl E d_X12_tellLaw_143 ?_
  refine wa_iconst 4 ic_4 E d_X12_tellLaw_144 ?_
  obtain ⟨q_4, hq_4, h⟩ := kf_bd h
  refine wa_callV (st2 := []) (c_X12_must hty v0 4 k_v0 q_3 hq_4) mv_X12_must ml_X12_261 k_v0 rfl (Nat.le_of_ble_eq_true rfl) rfl (Nat.le_of_ble_eq_true rfl) E d_X12_tellLaw_145 rfl ?_
  refine wa_aload_n 0 rfl E d_X12_tellLaw_148 ?_
  refine wa_getI fl_X12_203 k_v0 rfl E d_X12_tellLaw_149 ?_
  refine wa_if_le E d_X12_tellLaw_152 (fun c_5 => ?_) (fun c_5 => ?_)
  · replace h := kf_ift c_5 h
    refine wa_aload_n 0 rfl E d_X12_tellLaw_156 ?_
    refine wa_getR fl_X12_82 k_v0 rfl E d_X12_tellLaw_157 ?_
    refine wa_iconst 3 ic_3 E d_X12_tellLaw_160 ?_
    refine wa_aload_n 0 rfl E d_X12_tellLaw_161 ?_
    refine wa_getI fl_X12_236 k_v0 rfl E d_X12_tellLaw_162 ?_
    refine wa_imul E d_X12_tellLaw_165 ?_
    refine wa_iload_n 1 rfl E d_X12_tellLaw_166 ?_
    refine wa_iadd E d_X12_tellLaw_167 ?_
    refine wa_iload_n 2 rfl E d_X12_tellLaw_168 ?_
    obtain ⟨g_6, h⟩ := kf_gd h
    obtain ⟨σ_7, eσ_7, h⟩ := kf_lte h
    refine wa_iast (kf_wtf hty 35 49 k_v0 (by decide) rfl) g_6 E d_X12_tellLaw_169 eσ_7 ?_
    refine wa_aload_n 0 rfl E d_X12_tellLaw_170 ?_
    refine wa_getR fl_X12_85 k_v0 rfl E d_X12_tellLaw_171 ?_
    refine wa_iconst 3 ic_3 E d_X12_tellLaw_174 ?_
    refine wa_aload_n 0 rfl E d_X12_tellLaw_175 ?_
    refine wa_getI fl_X12_236 k_v0 rfl E d_X12_tellLaw_176 ?_
    refine wa_imul E d_X12_tellLaw_179 ?_
    refine wa_iload_n 1 rfl E d_X12_tellLaw_180 ?_
    refine wa_iadd E d_X12_tellLaw_181 ?_
    refine wa_aload_n 0 rfl E d_X12_tellLaw_182 ?_
    refine wa_getI fl_X12_242 k_v0 rfl E d_X12_tellLaw_183 ?_
    obtain ⟨g_8, h⟩ := kf_gd h
    obtain ⟨σ_9, eσ_9, h⟩ := kf_lte h
    refine wa_iast (kf_wtf hty 36 49 k_v0 (by decide) rfl) g_8 E d_X12_tellLaw_186 eσ_9 ?_
    cases h
    exact wa_vret E d_X12_tellLaw_187
  · replace h := kf_iff c_5 h
    cases h
    exact wa_vret E d_X12_tellLaw_155
def f_X12_tellLaw_110 (rec12 : Nat → Int32 → Int32 → Int32 → kf_St → Option kf_St) (v0 : Nat) (v1 : Int32) (v2 : Int32) (v3 : Int32) (σ : kf_St) : Option kf_St :=
  (f_X12_must v0 30 σ).bind fun q_1 =>
  (f_X12_term v0 q_1).bind fun q_2 =>
  (f_X12_must v0 31 q_2).bind fun q_3 =>
  rec12 v0 v1 v2 v3 q_3
set_option maxRecDepth 100000 in
set_option maxHeartbeats 4000000 in
theorem b_X12_tellLaw_110 {X : kf_X} {G : kf_G} {rec12 : Nat → Int32 → Int32 → Int32 → kf_St → Option kf_St} {q : kf_St} (E : kf_ok X G cX12_tellLaw RX12 4 none (6)) (hty : kf_wt G) (hrec12 : ∀ (v0 : Nat) (v1 : Int32) (v2 : Int32) (v3 : Int32) (k_v0 : kf_kd G v0 = 13) (σ : kf_St), rec12 v0 v1 v2 v3 σ = some q → kf_WA X G 4 (kf_Q X G none q) 12 [(0, .ref (kf_ad G v0)), (1, .int v1), (2, .int v2), (3, .int v3)] [] σ) (v0 : Nat) (v1 : Int32) (v2 : Int32) (v3 : Int32) (k_v0 : kf_kd G v0 = 13) (σ : kf_St) (h : f_X12_tellLaw_110 rec12 v0 v1 v2 v3 σ = some q) : kf_WA X G 4 (kf_Q X G none q) 110 [(0, .ref (kf_ad G v0)), (1, .int v1), (2, .int v2), (3, .int v3)] [] σ := by
  unfold f_X12_tellLaw_110 at h
  refine wa_aload_n 0 rfl E d_X12_tellLaw_110 ?_
  refine wa_bipush 30 bp_30 E d_X12_tellLaw_111 ?_
  obtain ⟨q_1, hq_1, h⟩ := kf_bd h
  refine wa_callV (st2 := []) (c_X12_must hty v0 30 k_v0 σ hq_1) mv_X12_must ml_X12_261 k_v0 rfl (Nat.le_of_ble_eq_true rfl) rfl (Nat.le_of_ble_eq_true rfl) E d_X12_tellLaw_113 rfl ?_
  refine wa_aload_n 0 rfl E d_X12_tellLaw_116 ?_
  obtain ⟨q_2, hq_2, h⟩ := kf_bd h
  refine wa_callV (st2 := []) (c_X12_term hty v0 k_v0 q_1 hq_2) mv_X12_term ml_X12_293 k_v0 rfl (Nat.le_of_ble_eq_true rfl) rfl (Nat.le_of_ble_eq_true rfl) E d_X12_tellLaw_117 rfl ?_
  refine wa_aload_n 0 rfl E d_X12_tellLaw_120 ?_
  refine wa_bipush 31 bp_31 E d_X12_tellLaw_121 ?_
  obtain ⟨q_3, hq_3, h⟩ := kf_bd h
  refine wa_callV (st2 := []) (c_X12_must hty v0 31 k_v0 q_2 hq_3) mv_X12_must ml_X12_261 k_v0 rfl (Nat.le_of_ble_eq_true rfl) rfl (Nat.le_of_ble_eq_true rfl) E d_X12_tellLaw_123 rfl ?_
  refine wa_goto E d_X12_tellLaw_126 ?_
  exact hrec12 v0 v1 v2 v3 k_v0 q_3 h
def f_X12_tellLaw_38 (rec12 : Nat → Int32 → Int32 → Int32 → kf_St → Option kf_St) (v0 : Nat) (v1 : Int32) (v2 : Int32) (v3 : Int32) (σ : kf_St) : Option kf_St :=
  if (σ.1 v0 13) ≤ 0 then
    kf_lt (v3 + 1) fun v3_2 =>
    (f_X12_goesOn v0 σ).bind fun q_3 =>
    if kf_ix (q_3.1 v0 37) (kf_ln (kf_rf v0 38)) = true then
    kf_lt (kf_wi q_3 (kf_rf v0 38) (Int32.toNatClampNeg (q_3.1 v0 37)) (vp_nar .boolean 1)) fun σ_5 =>
    if kf_ix (σ_5.1 v0 37) (kf_ln (kf_rf v0 39)) = true then
    kf_lt (kf_wi σ_5 (kf_rf v0 39) (Int32.toNatClampNeg (σ_5.1 v0 37)) (σ_5.1 v0 43)) fun σ_7 =>
    (f_X12_expression v0 σ_7).bind fun q_8 =>
    (f_X12_must v0 13 q_8).bind fun q_9 =>
    if kf_ix (q_9.1 v0 37) (kf_ln (kf_rf v0 40)) = true then
    kf_lt (kf_wi q_9 (kf_rf v0 40) (Int32.toNatClampNeg (q_9.1 v0 37)) (q_9.1 v0 43)) fun σ_11 =>
    if (σ_11.1 v0 13) = 0 then
      (f_X12_expression v0 σ_11).bind fun q_13 =>
      f_X12_tellLaw_110 rec12 v0 v1 v2 v3_2 q_13
    else
      f_X12_tellLaw_110 rec12 v0 v1 v2 v3_2 σ_11
    else none
    else none
    else none
  else
    some σ
set_option maxRecDepth 100000 in
set_option maxHeartbeats 4000000 in
theorem b_X12_tellLaw_38 {X : kf_X} {G : kf_G} {rec12 : Nat → Int32 → Int32 → Int32 → kf_St → Option kf_St} {q : kf_St} (E : kf_ok X G cX12_tellLaw RX12 4 none (6)) (hty : kf_wt G) (hrec12 : ∀ (v0 : Nat) (v1 : Int32) (v2 : Int32) (v3 : Int32) (k_v0 : kf_kd G v0 = 13) (σ : kf_St), rec12 v0 v1 v2 v3 σ = some q → kf_WA X G 4 (kf_Q X G none q) 12 [(0, .ref (kf_ad G v0)), (1, .int v1), (2, .int v2), (3, .int v3)] [] σ) (v0 : Nat) (v1 : Int32) (v2 : Int32) (v3 : Int32) (k_v0 : kf_kd G v0 = 13) (σ : kf_St) (h : f_X12_tellLaw_38 rec12 v0 v1 v2 v3 σ = some q) : kf_WA X G 4 (kf_Q X G none q) 38 [(0, .ref (kf_ad G v0)), (1, .int v1), (2, .int v2), (3, .int v3)] [] σ := by
  unfold f_X12_tellLaw_38 at h
  refine wa_aload_n 0 rfl E d_X12_tellLaw_38 ?_
  refine wa_getI fl_X12_203 k_v0 rfl E d_X12_tellLaw_39 ?_
  refine wa_if_le E d_X12_tellLaw_42 (fun c_1 => ?_) (fun c_1 => ?_)
  · replace h := kf_ift c_1 h
    obtain ⟨v3_2, ev3_2, h⟩ := kf_lte h
    refine wa_iinc (lv' := [(3, .int v3_2), (0, .ref (kf_ad G v0)), (1, .int v1), (2, .int v2)]) v3_2 3 rfl (kf_inc ic_1 ev3_2) (by decide) rfl E d_X12_tellLaw_46 ?_
    refine wa_aload_n 1 rfl E d_X12_tellLaw_49 ?_
    obtain ⟨q_3, hq_3, h⟩ := kf_bd h
    refine wa_callV (st2 := []) (c_X12_goesOn hty v0 k_v0 σ hq_3) mv_X12_goesOn ml_X12_224 k_v0 rfl (Nat.le_of_ble_eq_true rfl) rfl (Nat.le_of_ble_eq_true rfl) E d_X12_tellLaw_50 rfl ?_
    refine wa_aload_n 1 rfl E d_X12_tellLaw_53 ?_
    refine wa_getR fl_X12_88 k_v0 rfl E d_X12_tellLaw_54 ?_
    refine wa_aload_n 1 rfl E d_X12_tellLaw_57 ?_
    refine wa_getI fl_X12_242 k_v0 rfl E d_X12_tellLaw_58 ?_
    refine wa_iconst 1 ic_1 E d_X12_tellLaw_61 ?_
    obtain ⟨g_4, h⟩ := kf_gd h
    obtain ⟨σ_5, eσ_5, h⟩ := kf_lte h
    refine wa_zast (kf_wtf hty 38 52 k_v0 (by decide) rfl) g_4 E d_X12_tellLaw_62 eσ_5 ?_
    refine wa_aload_n 1 rfl E d_X12_tellLaw_63 ?_
    refine wa_getR fl_X12_92 k_v0 rfl E d_X12_tellLaw_64 ?_
    refine wa_aload_n 1 rfl E d_X12_tellLaw_67 ?_
    refine wa_getI fl_X12_242 k_v0 rfl E d_X12_tellLaw_68 ?_
    refine wa_aload_n 1 rfl E d_X12_tellLaw_71 ?_
    refine wa_getI fl_X12_245 k_v0 rfl E d_X12_tellLaw_72 ?_
    obtain ⟨g_6, h⟩ := kf_gd h
    obtain ⟨σ_7, eσ_7, h⟩ := kf_lte h
    refine wa_iast (kf_wtf hty 39 49 k_v0 (by decide) rfl) g_6 E d_X12_tellLaw_75 eσ_7 ?_
    refine wa_aload_n 1 rfl E d_X12_tellLaw_76 ?_
    obtain ⟨q_8, hq_8, h⟩ := kf_bd h
    refine wa_callV (st2 := []) (c_X12_expression hty v0 k_v0 σ_7 hq_8) mv_X12_expression ml_X12_290 k_v0 rfl (Nat.le_of_ble_eq_true rfl) rfl (Nat.le_of_ble_eq_true rfl) E d_X12_tellLaw_77 rfl ?_
    refine wa_aload_n 1 rfl E d_X12_tellLaw_80 ?_
    refine wa_bipush 13 bp_13 E d_X12_tellLaw_81 ?_
    obtain ⟨q_9, hq_9, h⟩ := kf_bd h
    refine wa_callV (st2 := []) (c_X12_must hty v0 13 k_v0 q_8 hq_9) mv_X12_must ml_X12_261 k_v0 rfl (Nat.le_of_ble_eq_true rfl) rfl (Nat.le_of_ble_eq_true rfl) E d_X12_tellLaw_83 rfl ?_
    refine wa_aload_n 1 rfl E d_X12_tellLaw_86 ?_
    refine wa_getR fl_X12_95 k_v0 rfl E d_X12_tellLaw_87 ?_
    refine wa_aload_n 1 rfl E d_X12_tellLaw_90 ?_
    refine wa_getI fl_X12_242 k_v0 rfl E d_X12_tellLaw_91 ?_
    refine wa_aload_n 1 rfl E d_X12_tellLaw_94 ?_
    refine wa_getI fl_X12_245 k_v0 rfl E d_X12_tellLaw_95 ?_
    obtain ⟨g_10, h⟩ := kf_gd h
    obtain ⟨σ_11, eσ_11, h⟩ := kf_lte h
    refine wa_iast (kf_wtf hty 40 49 k_v0 (by decide) rfl) g_10 E d_X12_tellLaw_98 eσ_11 ?_
    refine wa_aload_n 1 rfl E d_X12_tellLaw_99 ?_
    refine wa_getI fl_X12_203 k_v0 rfl E d_X12_tellLaw_100 ?_
    refine wa_if_ne E d_X12_tellLaw_103 (fun c_12 => ?_) (fun c_12 => ?_)
    · replace h := kf_iff c_12 h
      refine wa_sub [1, 2, 3, 0] rfl ?_
      exact b_X12_tellLaw_110 E hty hrec12 v0 v1 v2 v3_2 k_v0 σ_11 h
    · replace h := kf_ift c_12 h
      refine wa_aload_n 1 rfl E d_X12_tellLaw_106 ?_
      obtain ⟨q_13, hq_13, h⟩ := kf_bd h
      refine wa_callV (st2 := []) (c_X12_expression hty v0 k_v0 σ_11 hq_13) mv_X12_expression ml_X12_290 k_v0 rfl (Nat.le_of_ble_eq_true rfl) rfl (Nat.le_of_ble_eq_true rfl) E d_X12_tellLaw_107 rfl ?_
      refine wa_sub [1, 2, 3, 0] rfl ?_
      exact b_X12_tellLaw_110 E hty hrec12 v0 v1 v2 v3_2 k_v0 q_13 h
  · replace h := kf_iff c_1 h
    cases h
    exact wa_vret E d_X12_tellLaw_45
def f_X12_tellLaw_12_s (rec12 : Nat → Int32 → Int32 → Int32 → kf_St → Option kf_St) (v0 : Nat) (v1 : Int32) (v2 : Int32) (v3 : Int32) (σ : kf_St) : Option kf_St :=
  if (σ.1 v0 13) = 0 then
    (f_X12_is v0 29 σ).bind fun q_2 =>
    if q_2.1 = 0 then
      f_X12_tellLaw_129 v0 v1 v2 q_2.2
    else
      if v3 = 4 then
        (f_X12_fail v0 2 q_2.2).bind fun q_5 =>
        f_X12_tellLaw_38 rec12 v0 v1 v2 v3 q_5
      else
        f_X12_tellLaw_38 rec12 v0 v1 v2 v3 q_2.2
  else
    f_X12_tellLaw_129 v0 v1 v2 σ
def f_X12_tellLaw_12 : Nat → Nat → Int32 → Int32 → Int32 → kf_St → Option kf_St
  | 0, _, _, _, _, _ => none
  | n + 1, v0, v1, v2, v3, σ => f_X12_tellLaw_12_s (f_X12_tellLaw_12 n) v0 v1 v2 v3 σ
set_option maxRecDepth 100000 in
set_option maxHeartbeats 4000000 in
theorem b_X12_tellLaw_12_s {X : kf_X} {G : kf_G} (rec12 : Nat → Int32 → Int32 → Int32 → kf_St → Option kf_St) {q : kf_St} (E : kf_ok X G cX12_tellLaw RX12 4 none (6)) (hty : kf_wt G) (hrec12 : ∀ (v0 : Nat) (v1 : Int32) (v2 : Int32) (v3 : Int32) (k_v0 : kf_kd G v0 = 13) (σ : kf_St), rec12 v0 v1 v2 v3 σ = some q → kf_WA X G 4 (kf_Q X G none q) 12 [(0, .ref (kf_ad G v0)), (1, .int v1), (2, .int v2), (3, .int v3)] [] σ) (v0 : Nat) (v1 : Int32) (v2 : Int32) (v3 : Int32) (k_v0 : kf_kd G v0 = 13) (σ : kf_St) (h : f_X12_tellLaw_12_s rec12 v0 v1 v2 v3 σ = some q) : kf_WA X G 4 (kf_Q X G none q) 12 [(0, .ref (kf_ad G v0)), (1, .int v1), (2, .int v2), (3, .int v3)] [] σ := by
  unfold f_X12_tellLaw_12_s at h
  refine wa_aload_n 0 rfl E d_X12_tellLaw_12 ?_
  refine wa_getI fl_X12_203 k_v0 rfl E d_X12_tellLaw_13 ?_
  refine wa_if_ne E d_X12_tellLaw_16 (fun c_1 => ?_) (fun c_1 => ?_)
  · replace h := kf_iff c_1 h
    refine wa_sub [0, 1, 2] rfl ?_
    exact b_X12_tellLaw_129 E hty v0 v1 v2 k_v0 σ h
  · replace h := kf_ift c_1 h
    refine wa_aload_n 0 rfl E d_X12_tellLaw_19 ?_
    refine wa_bipush 29 bp_29 E d_X12_tellLaw_20 ?_
    obtain ⟨q_2, hq_2, h⟩ := kf_bd h
    refine wa_callV (st2 := [.int q_2.1]) (c_X12_is hty v0 29 k_v0 σ hq_2) mv_X12_is ml_X12_221 k_v0 rfl (Nat.le_of_ble_eq_true rfl) rfl (Nat.le_of_ble_eq_true rfl) E d_X12_tellLaw_22 rfl ?_
    refine wa_if_eq E d_X12_tellLaw_25 (fun c_3 => ?_) (fun c_3 => ?_)
    · replace h := kf_ift c_3 h
      refine wa_sub [0, 1, 2] rfl ?_
      exact b_X12_tellLaw_129 E hty v0 v1 v2 k_v0 q_2.2 h
    · replace h := kf_iff c_3 h
      refine wa_iload_n 3 rfl E d_X12_tellLaw_28 ?_
      refine wa_iconst 4 ic_4 E d_X12_tellLaw_29 ?_
      refine wa_icmp_ne E d_X12_tellLaw_30 (fun c_4 => ?_) (fun c_4 => ?_)
      · replace h := kf_iff c_4 h
        exact b_X12_tellLaw_38 E hty hrec12 v0 v1 v2 v3 k_v0 q_2.2 h
      · replace h := kf_ift c_4 h
        refine wa_aload_n 0 rfl E d_X12_tellLaw_33 ?_
        refine wa_iconst 2 ic_2 E d_X12_tellLaw_34 ?_
        obtain ⟨q_5, hq_5, h⟩ := kf_bd h
        refine wa_callV (st2 := []) (c_X12_fail hty v0 2 k_v0 q_2.2 hq_5) mv_X12_fail ml_X12_218 k_v0 rfl (Nat.le_of_ble_eq_true rfl) rfl (Nat.le_of_ble_eq_true rfl) E d_X12_tellLaw_35 rfl ?_
        exact b_X12_tellLaw_38 E hty hrec12 v0 v1 v2 v3 k_v0 q_5 h
theorem b_X12_tellLaw_12 {X : kf_X} {G : kf_G} {q : kf_St} (E : kf_ok X G cX12_tellLaw RX12 4 none (6)) (hty : kf_wt G) : ∀ (N : Nat) (v0 : Nat) (v1 : Int32) (v2 : Int32) (v3 : Int32) (k_v0 : kf_kd G v0 = 13) (σ : kf_St) (_ : f_X12_tellLaw_12 N v0 v1 v2 v3 σ = some q), kf_WA X G 4 (kf_Q X G none q) 12 [(0, .ref (kf_ad G v0)), (1, .int v1), (2, .int v2), (3, .int v3)] [] σ
  | 0, _, _, _, _, _, _, h => by cases h
  | N + 1, v0, v1, v2, v3, k_v0, σ, h => b_X12_tellLaw_12_s _ E hty (b_X12_tellLaw_12 E hty N) v0 v1 v2 v3 k_v0 σ h
def f_X12_tellLaw (v0 : Nat) (v1 : Int32) (σ : kf_St) : Option kf_St :=
  (f_X12_must v0 5 σ).bind fun q_1 =>
  kf_lt ((q_1.1 v0 37)) fun v2_2 =>
  f_X12_tellLaw_12 kf_F v0 v1 v2_2 0 q_1
set_option maxRecDepth 100000 in
set_option maxHeartbeats 4000000 in
theorem c_X12_tellLaw {G : kf_G} (hty : kf_wt G) (v0 : Nat) (v1 : Int32) (k_v0 : kf_kd G v0 = 13) (σ : kf_St) {q : kf_St} (h : f_X12_tellLaw v0 v1 σ = some q) : kf_Ct (6) yX12_tellLaw cX12_tellLaw 4 none G [.ref (kf_ad G v0), .int v1] σ none q := by
  refine kf_Ct.of hty.1 (lv := [(0, .ref (kf_ad G v0)), (1, .int v1)]) (by decide +kernel) rfl (Nat.le_of_ble_eq_true rfl) (fun X E => ?_)
  unfold f_X12_tellLaw at h
  refine wa_aload_n 0 rfl E d_X12_tellLaw_0 ?_
  refine wa_iconst 5 ic_5 E d_X12_tellLaw_1 ?_
  obtain ⟨q_1, hq_1, h⟩ := kf_bd h
  refine wa_callV (st2 := []) (c_X12_must hty v0 5 k_v0 σ hq_1) mv_X12_must ml_X12_261 k_v0 rfl (Nat.le_of_ble_eq_true rfl) rfl (Nat.le_of_ble_eq_true rfl) E d_X12_tellLaw_2 rfl ?_
  refine wa_aload_n 0 rfl E d_X12_tellLaw_5 ?_
  refine wa_getI fl_X12_242 k_v0 rfl E d_X12_tellLaw_6 ?_
  obtain ⟨v2_2, ev2_2, h⟩ := kf_lte h
  refine wa_topi ev2_2 ?_
  refine wa_istore_n (lv' := [(2, .int v2_2), (0, .ref (kf_ad G v0)), (1, .int v1)]) rfl (by decide) rfl E d_X12_tellLaw_9 ?_
  refine wa_iconst 0 ic_0 E d_X12_tellLaw_10 ?_
  refine wa_istore_n (lv' := [(3, .int 0), (2, .int v2_2), (0, .ref (kf_ad G v0)), (1, .int v1)]) rfl (by decide) rfl E d_X12_tellLaw_11 ?_
  refine wa_sub [2, 3, 1, 0] rfl ?_
  exact b_X12_tellLaw_12 E hty kf_F v0 v1 v2_2 0 k_v0 q_1 h
/-! X12_tellOne -/
theorem d_X12_tellOne_0 : kf_dq cX12_tellOne 0 1 1 (.aload_n 0) := ⟨by decide +kernel, rfl⟩
theorem d_X12_tellOne_1 : kf_dq cX12_tellOne 1 4 3 (.getfield 20) := ⟨by decide +kernel, rfl⟩
theorem d_X12_tellOne_4 : kf_dq cX12_tellOne 4 5 1 (.aload_n 0) := ⟨by decide +kernel, rfl⟩
theorem d_X12_tellOne_5 : kf_dq cX12_tellOne 5 8 3 (.getfield 206) := ⟨by decide +kernel, rfl⟩
theorem d_X12_tellOne_8 : kf_dq cX12_tellOne 8 9 1 (.iaload) := ⟨by decide +kernel, rfl⟩
theorem d_X12_tellOne_9 : decode cX12_tellOne 9 = .ok (.tableswitch 363 20 28 #[51, 162, 275, 363, 363, 363, 304, 323, 343], 51) := by decide +kernel
theorem d_X12_tellOne_60 : kf_dq cX12_tellOne 60 61 1 (.aload_n 0) := ⟨by decide +kernel, rfl⟩
theorem d_X12_tellOne_61 : kf_dq cX12_tellOne 61 62 1 (.aload_n 0) := ⟨by decide +kernel, rfl⟩
theorem d_X12_tellOne_62 : kf_dq cX12_tellOne 62 65 3 (.getfield 46) := ⟨by decide +kernel, rfl⟩
theorem d_X12_tellOne_65 : kf_dq cX12_tellOne 65 66 1 (.aload_n 0) := ⟨by decide +kernel, rfl⟩
theorem d_X12_tellOne_66 : kf_dq cX12_tellOne 66 69 3 (.getfield 236) := ⟨by decide +kernel, rfl⟩
theorem d_X12_tellOne_69 : kf_dq cX12_tellOne 69 70 1 (.iaload) := ⟨by decide +kernel, rfl⟩
theorem d_X12_tellOne_70 : kf_dq cX12_tellOne 70 72 2 (.bipush 6) := ⟨by decide +kernel, rfl⟩
theorem d_X12_tellOne_72 : kf_dq cX12_tellOne 72 75 3 (.invokevirtual 264) := ⟨by decide +kernel, rfl⟩
theorem d_X12_tellOne_75 : kf_dq cX12_tellOne 75 76 1 (.aload_n 0) := ⟨by decide +kernel, rfl⟩
theorem d_X12_tellOne_76 : kf_dq cX12_tellOne 76 79 3 (.getfield 203) := ⟨by decide +kernel, rfl⟩
theorem d_X12_tellOne_79 : kf_dj cX12_tellOne 79 82 83 (.ifCond .le) := ⟨4, by decide +kernel, rfl, by decide⟩
theorem d_X12_tellOne_82 : kf_dq cX12_tellOne 82 83 1 (.return_) := ⟨by decide +kernel, rfl⟩
theorem d_X12_tellOne_83 : kf_dq cX12_tellOne 83 84 1 (.aload_n 0) := ⟨by decide +kernel, rfl⟩
theorem d_X12_tellOne_84 : kf_dq cX12_tellOne 84 87 3 (.invokevirtual 268) := ⟨by decide +kernel, rfl⟩
theorem d_X12_tellOne_87 : kf_dq cX12_tellOne 87 88 1 (.istore_n 1) := ⟨by decide +kernel, rfl⟩
theorem d_X12_tellOne_88 : kf_dq cX12_tellOne 88 89 1 (.iconst 0) := ⟨by decide +kernel, rfl⟩
theorem d_X12_tellOne_89 : kf_dq cX12_tellOne 89 90 1 (.istore_n 2) := ⟨by decide +kernel, rfl⟩
theorem d_X12_tellOne_90 : kf_dq cX12_tellOne 90 91 1 (.iload_n 2) := ⟨by decide +kernel, rfl⟩
theorem d_X12_tellOne_91 : kf_dq cX12_tellOne 91 92 1 (.iconst 4) := ⟨by decide +kernel, rfl⟩
theorem d_X12_tellOne_92 : kf_dj cX12_tellOne 92 95 134 (.if_icmp .ge) := ⟨42, by decide +kernel, rfl, by decide⟩
theorem d_X12_tellOne_95 : kf_dq cX12_tellOne 95 96 1 (.aload_n 0) := ⟨by decide +kernel, rfl⟩
theorem d_X12_tellOne_96 : kf_dq cX12_tellOne 96 99 3 (.getfield 49) := ⟨by decide +kernel, rfl⟩
theorem d_X12_tellOne_99 : kf_dq cX12_tellOne 99 101 2 (.bipush 24) := ⟨by decide +kernel, rfl⟩
theorem d_X12_tellOne_101 : kf_dq cX12_tellOne 101 102 1 (.aload_n 0) := ⟨by decide +kernel, rfl⟩
theorem d_X12_tellOne_102 : kf_dq cX12_tellOne 102 105 3 (.getfield 236) := ⟨by decide +kernel, rfl⟩
theorem d_X12_tellOne_105 : kf_dq cX12_tellOne 105 106 1 (.imul) := ⟨by decide +kernel, rfl⟩
theorem d_X12_tellOne_106 : kf_dq cX12_tellOne 106 107 1 (.iconst 4) := ⟨by decide +kernel, rfl⟩
theorem d_X12_tellOne_107 : kf_dq cX12_tellOne 107 108 1 (.aload_n 0) := ⟨by decide +kernel, rfl⟩
theorem d_X12_tellOne_108 : kf_dq cX12_tellOne 108 111 3 (.getfield 46) := ⟨by decide +kernel, rfl⟩
theorem d_X12_tellOne_111 : kf_dq cX12_tellOne 111 112 1 (.aload_n 0) := ⟨by decide +kernel, rfl⟩
theorem d_X12_tellOne_112 : kf_dq cX12_tellOne 112 115 3 (.getfield 236) := ⟨by decide +kernel, rfl⟩
theorem d_X12_tellOne_115 : kf_dq cX12_tellOne 115 116 1 (.iaload) := ⟨by decide +kernel, rfl⟩
theorem d_X12_tellOne_116 : kf_dq cX12_tellOne 116 117 1 (.imul) := ⟨by decide +kernel, rfl⟩
theorem d_X12_tellOne_117 : kf_dq cX12_tellOne 117 118 1 (.iadd) := ⟨by decide +kernel, rfl⟩
theorem d_X12_tellOne_118 : kf_dq cX12_tellOne 118 119 1 (.iload_n 2) := ⟨by decide +kernel, rfl⟩
theorem d_X12_tellOne_119 : kf_dq cX12_tellOne 119 120 1 (.iadd) := ⟨by decide +kernel, rfl⟩
theorem d_X12_tellOne_120 : kf_dq cX12_tellOne 120 121 1 (.aload_n 0) := ⟨by decide +kernel, rfl⟩
theorem d_X12_tellOne_121 : kf_dq cX12_tellOne 121 122 1 (.iconst 0) := ⟨by decide +kernel, rfl⟩
theorem d_X12_tellOne_122 : kf_dq cX12_tellOne 122 124 2 (.bipush 99) := ⟨by decide +kernel, rfl⟩
theorem d_X12_tellOne_124 : kf_dq cX12_tellOne 124 127 3 (.invokevirtual 257) := ⟨by decide +kernel, rfl⟩
theorem d_X12_tellOne_127 : kf_dq cX12_tellOne 127 128 1 (.iastore) := ⟨by decide +kernel, rfl⟩
theorem d_X12_tellOne_128 : kf_dq cX12_tellOne 128 131 3 (.iinc 2 1) := ⟨by decide +kernel, rfl⟩
theorem d_X12_tellOne_131 : kf_dj cX12_tellOne 131 134 90 .goto := ⟨(-41), by decide +kernel, rfl, by decide⟩
theorem d_X12_tellOne_134 : kf_dq cX12_tellOne 134 135 1 (.aload_n 0) := ⟨by decide +kernel, rfl⟩
theorem d_X12_tellOne_135 : kf_dq cX12_tellOne 135 136 1 (.iload_n 1) := ⟨by decide +kernel, rfl⟩
theorem d_X12_tellOne_136 : kf_dq cX12_tellOne 136 137 1 (.aload_n 0) := ⟨by decide +kernel, rfl⟩
theorem d_X12_tellOne_137 : kf_dq cX12_tellOne 137 140 3 (.getfield 46) := ⟨by decide +kernel, rfl⟩
theorem d_X12_tellOne_140 : kf_dq cX12_tellOne 140 141 1 (.aload_n 0) := ⟨by decide +kernel, rfl⟩
theorem d_X12_tellOne_141 : kf_dq cX12_tellOne 141 144 3 (.getfield 236) := ⟨by decide +kernel, rfl⟩
theorem d_X12_tellOne_144 : kf_dq cX12_tellOne 144 145 1 (.iaload) := ⟨by decide +kernel, rfl⟩
theorem d_X12_tellOne_145 : kf_dq cX12_tellOne 145 148 3 (.invokevirtual 272) := ⟨by decide +kernel, rfl⟩
theorem d_X12_tellOne_148 : kf_dq cX12_tellOne 148 149 1 (.aload_n 0) := ⟨by decide +kernel, rfl⟩
theorem d_X12_tellOne_149 : kf_dq cX12_tellOne 149 152 3 (.getfield 203) := ⟨by decide +kernel, rfl⟩
theorem d_X12_tellOne_152 : kf_dj cX12_tellOne 152 155 425 (.ifCond .ne) := ⟨273, by decide +kernel, rfl, by decide⟩
theorem d_X12_tellOne_155 : kf_dq cX12_tellOne 155 156 1 (.aload_n 0) := ⟨by decide +kernel, rfl⟩
theorem d_X12_tellOne_156 : kf_dq cX12_tellOne 156 159 3 (.getfield 46) := ⟨by decide +kernel, rfl⟩
theorem d_X12_tellOne_159 : kf_dq cX12_tellOne 159 160 1 (.aload_n 0) := ⟨by decide +kernel, rfl⟩
theorem d_X12_tellOne_160 : kf_dq cX12_tellOne 160 163 3 (.getfield 236) := ⟨by decide +kernel, rfl⟩
theorem d_X12_tellOne_163 : kf_dq cX12_tellOne 163 164 1 (.dup2) := ⟨by decide +kernel, rfl⟩
theorem d_X12_tellOne_164 : kf_dq cX12_tellOne 164 165 1 (.iaload) := ⟨by decide +kernel, rfl⟩
theorem d_X12_tellOne_165 : kf_dq cX12_tellOne 165 166 1 (.iconst 1) := ⟨by decide +kernel, rfl⟩
theorem d_X12_tellOne_166 : kf_dq cX12_tellOne 166 167 1 (.iadd) := ⟨by decide +kernel, rfl⟩
theorem d_X12_tellOne_167 : kf_dq cX12_tellOne 167 168 1 (.iastore) := ⟨by decide +kernel, rfl⟩
theorem d_X12_tellOne_168 : kf_dj cX12_tellOne 168 171 425 .goto := ⟨257, by decide +kernel, rfl, by decide⟩
theorem d_X12_tellOne_171 : kf_dq cX12_tellOne 171 172 1 (.aload_n 0) := ⟨by decide +kernel, rfl⟩
theorem d_X12_tellOne_172 : kf_dq cX12_tellOne 172 173 1 (.aload_n 0) := ⟨by decide +kernel, rfl⟩
theorem d_X12_tellOne_173 : kf_dq cX12_tellOne 173 176 3 (.getfield 52) := ⟨by decide +kernel, rfl⟩
theorem d_X12_tellOne_176 : kf_dq cX12_tellOne 176 177 1 (.aload_n 0) := ⟨by decide +kernel, rfl⟩
theorem d_X12_tellOne_177 : kf_dq cX12_tellOne 177 180 3 (.getfield 236) := ⟨by decide +kernel, rfl⟩
theorem d_X12_tellOne_180 : kf_dq cX12_tellOne 180 181 1 (.iaload) := ⟨by decide +kernel, rfl⟩
theorem d_X12_tellOne_181 : kf_dq cX12_tellOne 181 182 1 (.iconst 5) := ⟨by decide +kernel, rfl⟩
theorem d_X12_tellOne_182 : kf_dq cX12_tellOne 182 185 3 (.invokevirtual 264) := ⟨by decide +kernel, rfl⟩
theorem d_X12_tellOne_185 : kf_dq cX12_tellOne 185 186 1 (.aload_n 0) := ⟨by decide +kernel, rfl⟩
theorem d_X12_tellOne_186 : kf_dq cX12_tellOne 186 189 3 (.getfield 203) := ⟨by decide +kernel, rfl⟩
theorem d_X12_tellOne_189 : kf_dj cX12_tellOne 189 192 193 (.ifCond .le) := ⟨4, by decide +kernel, rfl, by decide⟩
theorem d_X12_tellOne_192 : kf_dq cX12_tellOne 192 193 1 (.return_) := ⟨by decide +kernel, rfl⟩
theorem d_X12_tellOne_193 : kf_dq cX12_tellOne 193 194 1 (.aload_n 0) := ⟨by decide +kernel, rfl⟩
theorem d_X12_tellOne_194 : kf_dq cX12_tellOne 194 197 3 (.invokevirtual 268) := ⟨by decide +kernel, rfl⟩
theorem d_X12_tellOne_197 : kf_dq cX12_tellOne 197 198 1 (.istore_n 1) := ⟨by decide +kernel, rfl⟩
theorem d_X12_tellOne_198 : kf_dq cX12_tellOne 198 199 1 (.iconst 0) := ⟨by decide +kernel, rfl⟩
theorem d_X12_tellOne_199 : kf_dq cX12_tellOne 199 200 1 (.istore_n 2) := ⟨by decide +kernel, rfl⟩
theorem d_X12_tellOne_200 : kf_dq cX12_tellOne 200 201 1 (.iload_n 2) := ⟨by decide +kernel, rfl⟩
theorem d_X12_tellOne_201 : kf_dq cX12_tellOne 201 202 1 (.iconst 4) := ⟨by decide +kernel, rfl⟩
theorem d_X12_tellOne_202 : kf_dj cX12_tellOne 202 205 244 (.if_icmp .ge) := ⟨42, by decide +kernel, rfl, by decide⟩
theorem d_X12_tellOne_205 : kf_dq cX12_tellOne 205 206 1 (.aload_n 0) := ⟨by decide +kernel, rfl⟩
theorem d_X12_tellOne_206 : kf_dq cX12_tellOne 206 209 3 (.getfield 55) := ⟨by decide +kernel, rfl⟩
theorem d_X12_tellOne_209 : kf_dq cX12_tellOne 209 211 2 (.bipush 20) := ⟨by decide +kernel, rfl⟩
theorem d_X12_tellOne_211 : kf_dq cX12_tellOne 211 212 1 (.aload_n 0) := ⟨by decide +kernel, rfl⟩
theorem d_X12_tellOne_212 : kf_dq cX12_tellOne 212 215 3 (.getfield 236) := ⟨by decide +kernel, rfl⟩
theorem d_X12_tellOne_215 : kf_dq cX12_tellOne 215 216 1 (.imul) := ⟨by decide +kernel, rfl⟩
theorem d_X12_tellOne_216 : kf_dq cX12_tellOne 216 217 1 (.iconst 4) := ⟨by decide +kernel, rfl⟩
theorem d_X12_tellOne_217 : kf_dq cX12_tellOne 217 218 1 (.aload_n 0) := ⟨by decide +kernel, rfl⟩
theorem d_X12_tellOne_218 : kf_dq cX12_tellOne 218 221 3 (.getfield 52) := ⟨by decide +kernel, rfl⟩
theorem d_X12_tellOne_221 : kf_dq cX12_tellOne 221 222 1 (.aload_n 0) := ⟨by decide +kernel, rfl⟩
theorem d_X12_tellOne_222 : kf_dq cX12_tellOne 222 225 3 (.getfield 236) := ⟨by decide +kernel, rfl⟩
theorem d_X12_tellOne_225 : kf_dq cX12_tellOne 225 226 1 (.iaload) := ⟨by decide +kernel, rfl⟩
theorem d_X12_tellOne_226 : kf_dq cX12_tellOne 226 227 1 (.imul) := ⟨by decide +kernel, rfl⟩
theorem d_X12_tellOne_227 : kf_dq cX12_tellOne 227 228 1 (.iadd) := ⟨by decide +kernel, rfl⟩
theorem d_X12_tellOne_228 : kf_dq cX12_tellOne 228 229 1 (.iload_n 2) := ⟨by decide +kernel, rfl⟩
theorem d_X12_tellOne_229 : kf_dq cX12_tellOne 229 230 1 (.iadd) := ⟨by decide +kernel, rfl⟩
theorem d_X12_tellOne_230 : kf_dq cX12_tellOne 230 231 1 (.aload_n 0) := ⟨by decide +kernel, rfl⟩
theorem d_X12_tellOne_231 : kf_dq cX12_tellOne 231 232 1 (.iconst 0) := ⟨by decide +kernel, rfl⟩
theorem d_X12_tellOne_232 : kf_dq cX12_tellOne 232 234 2 (.bipush 99) := ⟨by decide +kernel, rfl⟩
theorem d_X12_tellOne_234 : kf_dq cX12_tellOne 234 237 3 (.invokevirtual 257) := ⟨by decide +kernel, rfl⟩
theorem d_X12_tellOne_237 : kf_dq cX12_tellOne 237 238 1 (.iastore) := ⟨by decide +kernel, rfl⟩
theorem d_X12_tellOne_238 : kf_dq cX12_tellOne 238 241 3 (.iinc 2 1) := ⟨by decide +kernel, rfl⟩
theorem d_X12_tellOne_241 : kf_dj cX12_tellOne 241 244 200 .goto := ⟨(-41), by decide +kernel, rfl, by decide⟩
theorem d_X12_tellOne_244 : kf_dq cX12_tellOne 244 245 1 (.aload_n 0) := ⟨by decide +kernel, rfl⟩
theorem d_X12_tellOne_245 : kf_dq cX12_tellOne 245 246 1 (.iload_n 1) := ⟨by decide +kernel, rfl⟩
theorem d_X12_tellOne_246 : kf_dq cX12_tellOne 246 248 2 (.bipush 10) := ⟨by decide +kernel, rfl⟩
theorem d_X12_tellOne_248 : kf_dq cX12_tellOne 248 249 1 (.aload_n 0) := ⟨by decide +kernel, rfl⟩
theorem d_X12_tellOne_249 : kf_dq cX12_tellOne 249 252 3 (.getfield 52) := ⟨by decide +kernel, rfl⟩
theorem d_X12_tellOne_252 : kf_dq cX12_tellOne 252 253 1 (.aload_n 0) := ⟨by decide +kernel, rfl⟩
theorem d_X12_tellOne_253 : kf_dq cX12_tellOne 253 256 3 (.getfield 236) := ⟨by decide +kernel, rfl⟩
theorem d_X12_tellOne_256 : kf_dq cX12_tellOne 256 257 1 (.iaload) := ⟨by decide +kernel, rfl⟩
theorem d_X12_tellOne_257 : kf_dq cX12_tellOne 257 258 1 (.iadd) := ⟨by decide +kernel, rfl⟩
theorem d_X12_tellOne_258 : kf_dq cX12_tellOne 258 261 3 (.invokevirtual 272) := ⟨by decide +kernel, rfl⟩
theorem d_X12_tellOne_261 : kf_dq cX12_tellOne 261 262 1 (.aload_n 0) := ⟨by decide +kernel, rfl⟩
theorem d_X12_tellOne_262 : kf_dq cX12_tellOne 262 265 3 (.getfield 203) := ⟨by decide +kernel, rfl⟩
theorem d_X12_tellOne_265 : kf_dj cX12_tellOne 265 268 425 (.ifCond .ne) := ⟨160, by decide +kernel, rfl, by decide⟩
theorem d_X12_tellOne_268 : kf_dq cX12_tellOne 268 269 1 (.aload_n 0) := ⟨by decide +kernel, rfl⟩
theorem d_X12_tellOne_269 : kf_dq cX12_tellOne 269 272 3 (.getfield 52) := ⟨by decide +kernel, rfl⟩
theorem d_X12_tellOne_272 : kf_dq cX12_tellOne 272 273 1 (.aload_n 0) := ⟨by decide +kernel, rfl⟩
theorem d_X12_tellOne_273 : kf_dq cX12_tellOne 273 276 3 (.getfield 236) := ⟨by decide +kernel, rfl⟩
theorem d_X12_tellOne_276 : kf_dq cX12_tellOne 276 277 1 (.dup2) := ⟨by decide +kernel, rfl⟩
theorem d_X12_tellOne_277 : kf_dq cX12_tellOne 277 278 1 (.iaload) := ⟨by decide +kernel, rfl⟩
theorem d_X12_tellOne_278 : kf_dq cX12_tellOne 278 279 1 (.iconst 1) := ⟨by decide +kernel, rfl⟩
theorem d_X12_tellOne_279 : kf_dq cX12_tellOne 279 280 1 (.iadd) := ⟨by decide +kernel, rfl⟩
theorem d_X12_tellOne_280 : kf_dq cX12_tellOne 280 281 1 (.iastore) := ⟨by decide +kernel, rfl⟩
theorem d_X12_tellOne_281 : kf_dj cX12_tellOne 281 284 425 .goto := ⟨144, by decide +kernel, rfl, by decide⟩
theorem d_X12_tellOne_284 : kf_dq cX12_tellOne 284 285 1 (.aload_n 0) := ⟨by decide +kernel, rfl⟩
theorem d_X12_tellOne_285 : kf_dq cX12_tellOne 285 286 1 (.aload_n 0) := ⟨by decide +kernel, rfl⟩
theorem d_X12_tellOne_286 : kf_dq cX12_tellOne 286 289 3 (.getfield 58) := ⟨by decide +kernel, rfl⟩
theorem d_X12_tellOne_289 : kf_dq cX12_tellOne 289 290 1 (.aload_n 0) := ⟨by decide +kernel, rfl⟩
theorem d_X12_tellOne_290 : kf_dq cX12_tellOne 290 293 3 (.getfield 236) := ⟨by decide +kernel, rfl⟩
theorem d_X12_tellOne_293 : kf_dq cX12_tellOne 293 294 1 (.iaload) := ⟨by decide +kernel, rfl⟩
theorem d_X12_tellOne_294 : kf_dq cX12_tellOne 294 296 2 (.bipush 10) := ⟨by decide +kernel, rfl⟩
theorem d_X12_tellOne_296 : kf_dq cX12_tellOne 296 299 3 (.invokevirtual 264) := ⟨by decide +kernel, rfl⟩
theorem d_X12_tellOne_299 : kf_dq cX12_tellOne 299 300 1 (.aload_n 0) := ⟨by decide +kernel, rfl⟩
theorem d_X12_tellOne_300 : kf_dq cX12_tellOne 300 303 3 (.getfield 203) := ⟨by decide +kernel, rfl⟩
theorem d_X12_tellOne_303 : kf_dj cX12_tellOne 303 306 425 (.ifCond .ne) := ⟨122, by decide +kernel, rfl, by decide⟩
theorem d_X12_tellOne_306 : kf_dq cX12_tellOne 306 307 1 (.aload_n 0) := ⟨by decide +kernel, rfl⟩
theorem d_X12_tellOne_307 : kf_dq cX12_tellOne 307 310 3 (.invokevirtual 275) := ⟨by decide +kernel, rfl⟩
theorem d_X12_tellOne_310 : kf_dj cX12_tellOne 310 313 425 .goto := ⟨115, by decide +kernel, rfl, by decide⟩
theorem d_X12_tellOne_313 : kf_dq cX12_tellOne 313 314 1 (.aload_n 0) := ⟨by decide +kernel, rfl⟩
theorem d_X12_tellOne_314 : kf_dq cX12_tellOne 314 317 3 (.getfield 73) := ⟨by decide +kernel, rfl⟩
theorem d_X12_tellOne_317 : kf_dq cX12_tellOne 317 318 1 (.aload_n 0) := ⟨by decide +kernel, rfl⟩
theorem d_X12_tellOne_318 : kf_dq cX12_tellOne 318 321 3 (.getfield 236) := ⟨by decide +kernel, rfl⟩
theorem d_X12_tellOne_321 : kf_dq cX12_tellOne 321 322 1 (.aload_n 0) := ⟨by decide +kernel, rfl⟩
theorem d_X12_tellOne_322 : kf_dq cX12_tellOne 322 323 1 (.iconst 0) := ⟨by decide +kernel, rfl⟩
theorem d_X12_tellOne_323 : kf_dq cX12_tellOne 323 325 2 (.bipush 100) := ⟨by decide +kernel, rfl⟩
theorem d_X12_tellOne_325 : kf_dq cX12_tellOne 325 328 3 (.invokevirtual 278) := ⟨by decide +kernel, rfl⟩
theorem d_X12_tellOne_328 : kf_dq cX12_tellOne 328 329 1 (.iastore) := ⟨by decide +kernel, rfl⟩
theorem d_X12_tellOne_329 : kf_dj cX12_tellOne 329 332 425 .goto := ⟨96, by decide +kernel, rfl, by decide⟩
theorem d_X12_tellOne_332 : kf_dq cX12_tellOne 332 333 1 (.aload_n 0) := ⟨by decide +kernel, rfl⟩
theorem d_X12_tellOne_333 : kf_dq cX12_tellOne 333 336 3 (.getfield 76) := ⟨by decide +kernel, rfl⟩
theorem d_X12_tellOne_336 : kf_dq cX12_tellOne 336 337 1 (.aload_n 0) := ⟨by decide +kernel, rfl⟩
theorem d_X12_tellOne_337 : kf_dq cX12_tellOne 337 340 3 (.getfield 236) := ⟨by decide +kernel, rfl⟩
theorem d_X12_tellOne_340 : kf_dq cX12_tellOne 340 341 1 (.aload_n 0) := ⟨by decide +kernel, rfl⟩
theorem d_X12_tellOne_341 : kf_dq cX12_tellOne 341 342 1 (.iconst 0) := ⟨by decide +kernel, rfl⟩
theorem d_X12_tellOne_342 : kf_dq cX12_tellOne 342 345 3 (.sipush 396) := ⟨by decide +kernel, rfl⟩
theorem d_X12_tellOne_345 : kf_dq cX12_tellOne 345 348 3 (.invokevirtual 278) := ⟨by decide +kernel, rfl⟩
theorem d_X12_tellOne_348 : kf_dq cX12_tellOne 348 349 1 (.iastore) := ⟨by decide +kernel, rfl⟩
theorem d_X12_tellOne_349 : kf_dj cX12_tellOne 349 352 425 .goto := ⟨76, by decide +kernel, rfl, by decide⟩
theorem d_X12_tellOne_352 : kf_dq cX12_tellOne 352 353 1 (.aload_n 0) := ⟨by decide +kernel, rfl⟩
theorem d_X12_tellOne_353 : kf_dq cX12_tellOne 353 356 3 (.getfield 79) := ⟨by decide +kernel, rfl⟩
theorem d_X12_tellOne_356 : kf_dq cX12_tellOne 356 357 1 (.aload_n 0) := ⟨by decide +kernel, rfl⟩
theorem d_X12_tellOne_357 : kf_dq cX12_tellOne 357 360 3 (.getfield 236) := ⟨by decide +kernel, rfl⟩
theorem d_X12_tellOne_360 : kf_dq cX12_tellOne 360 361 1 (.aload_n 0) := ⟨by decide +kernel, rfl⟩
theorem d_X12_tellOne_361 : kf_dq cX12_tellOne 361 362 1 (.iconst 0) := ⟨by decide +kernel, rfl⟩
theorem d_X12_tellOne_362 : kf_dq cX12_tellOne 362 365 3 (.sipush 9999) := ⟨by decide +kernel, rfl⟩
theorem d_X12_tellOne_365 : kf_dq cX12_tellOne 365 368 3 (.invokevirtual 278) := ⟨by decide +kernel, rfl⟩
theorem d_X12_tellOne_368 : kf_dq cX12_tellOne 368 369 1 (.iastore) := ⟨by decide +kernel, rfl⟩
theorem d_X12_tellOne_369 : kf_dj cX12_tellOne 369 372 425 .goto := ⟨56, by decide +kernel, rfl, by decide⟩
theorem d_X12_tellOne_372 : kf_dq cX12_tellOne 372 373 1 (.aload_n 0) := ⟨by decide +kernel, rfl⟩
theorem d_X12_tellOne_373 : kf_dq cX12_tellOne 373 376 3 (.getfield 20) := ⟨by decide +kernel, rfl⟩
theorem d_X12_tellOne_376 : kf_dq cX12_tellOne 376 377 1 (.aload_n 0) := ⟨by decide +kernel, rfl⟩
theorem d_X12_tellOne_377 : kf_dq cX12_tellOne 377 380 3 (.getfield 206) := ⟨by decide +kernel, rfl⟩
theorem d_X12_tellOne_380 : kf_dq cX12_tellOne 380 381 1 (.iaload) := ⟨by decide +kernel, rfl⟩
theorem d_X12_tellOne_381 : kf_dq cX12_tellOne 381 383 2 (.bipush 23) := ⟨by decide +kernel, rfl⟩
theorem d_X12_tellOne_383 : kf_dq cX12_tellOne 383 384 1 (.isub) := ⟨by decide +kernel, rfl⟩
theorem d_X12_tellOne_384 : kf_dq cX12_tellOne 384 385 1 (.istore_n 1) := ⟨by decide +kernel, rfl⟩
theorem d_X12_tellOne_385 : kf_dq cX12_tellOne 385 386 1 (.iload_n 1) := ⟨by decide +kernel, rfl⟩
theorem d_X12_tellOne_386 : kf_dj cX12_tellOne 386 389 403 (.ifCond .lt) := ⟨17, by decide +kernel, rfl, by decide⟩
theorem d_X12_tellOne_389 : kf_dq cX12_tellOne 389 390 1 (.aload_n 0) := ⟨by decide +kernel, rfl⟩
theorem d_X12_tellOne_390 : kf_dq cX12_tellOne 390 393 3 (.getfield 20) := ⟨by decide +kernel, rfl⟩
theorem d_X12_tellOne_393 : kf_dq cX12_tellOne 393 394 1 (.aload_n 0) := ⟨by decide +kernel, rfl⟩
theorem d_X12_tellOne_394 : kf_dq cX12_tellOne 394 397 3 (.getfield 206) := ⟨by decide +kernel, rfl⟩
theorem d_X12_tellOne_397 : kf_dq cX12_tellOne 397 398 1 (.iaload) := ⟨by decide +kernel, rfl⟩
theorem d_X12_tellOne_398 : kf_dq cX12_tellOne 398 400 2 (.bipush 25) := ⟨by decide +kernel, rfl⟩
theorem d_X12_tellOne_400 : kf_dj cX12_tellOne 400 403 408 (.if_icmp .le) := ⟨8, by decide +kernel, rfl, by decide⟩
theorem d_X12_tellOne_403 : kf_dq cX12_tellOne 403 404 1 (.aload_n 0) := ⟨by decide +kernel, rfl⟩
theorem d_X12_tellOne_404 : kf_dq cX12_tellOne 404 405 1 (.iconst 1) := ⟨by decide +kernel, rfl⟩
theorem d_X12_tellOne_405 : kf_dq cX12_tellOne 405 408 3 (.invokevirtual 218) := ⟨by decide +kernel, rfl⟩
theorem d_X12_tellOne_408 : kf_dq cX12_tellOne 408 409 1 (.aload_n 0) := ⟨by decide +kernel, rfl⟩
theorem d_X12_tellOne_409 : kf_dq cX12_tellOne 409 412 3 (.getfield 203) := ⟨by decide +kernel, rfl⟩
theorem d_X12_tellOne_412 : kf_dj cX12_tellOne 412 415 416 (.ifCond .le) := ⟨4, by decide +kernel, rfl, by decide⟩
theorem d_X12_tellOne_415 : kf_dq cX12_tellOne 415 416 1 (.return_) := ⟨by decide +kernel, rfl⟩
theorem d_X12_tellOne_416 : kf_dq cX12_tellOne 416 417 1 (.aload_n 0) := ⟨by decide +kernel, rfl⟩
theorem d_X12_tellOne_417 : kf_dq cX12_tellOne 417 420 3 (.invokevirtual 224) := ⟨by decide +kernel, rfl⟩
theorem d_X12_tellOne_420 : kf_dq cX12_tellOne 420 421 1 (.aload_n 0) := ⟨by decide +kernel, rfl⟩
theorem d_X12_tellOne_421 : kf_dq cX12_tellOne 421 422 1 (.iload_n 1) := ⟨by decide +kernel, rfl⟩
theorem d_X12_tellOne_422 : kf_dq cX12_tellOne 422 425 3 (.invokevirtual 281) := ⟨by decide +kernel, rfl⟩
theorem d_X12_tellOne_425 : kf_dq cX12_tellOne 425 426 1 (.return_) := ⟨by decide +kernel, rfl⟩
def f_X12_tellOne_408 (v0 : Nat) (v1 : Int32) (σ : kf_St) : Option kf_St :=
  if (σ.1 v0 13) ≤ 0 then
    (f_X12_goesOn v0 σ).bind fun q_2 =>
    (f_X12_tellLaw v0 v1 q_2).bind fun q_3 =>
    some q_3
  else
    some σ
set_option maxRecDepth 100000 in
set_option maxHeartbeats 4000000 in
theorem b_X12_tellOne_408 {X : kf_X} {G : kf_G} {q : kf_St} (E : kf_ok X G cX12_tellOne RX12 3 none (7)) (hty : kf_wt G) (v0 : Nat) (v1 : Int32) (k_v0 : kf_kd G v0 = 13) (σ : kf_St) (h : f_X12_tellOne_408 v0 v1 σ = some q) : kf_WA X G 3 (kf_Q X G none q) 408 [(0, .ref (kf_ad G v0)), (1, .int v1)] [] σ := by
  unfold f_X12_tellOne_408 at h
  refine wa_aload_n 0 rfl E d_X12_tellOne_408 ?_
  refine wa_getI fl_X12_203 k_v0 rfl E d_X12_tellOne_409 ?_
  refine wa_if_le E d_X12_tellOne_412 (fun c_1 => ?_) (fun c_1 => ?_)
  · replace h := kf_ift c_1 h
    refine wa_aload_n 0 rfl E d_X12_tellOne_416 ?_
    obtain ⟨q_2, hq_2, h⟩ := kf_bd h
    refine wa_callV (st2 := []) (c_X12_goesOn hty v0 k_v0 σ hq_2) mv_X12_goesOn ml_X12_224 k_v0 rfl (Nat.le_of_ble_eq_true rfl) rfl (Nat.le_of_ble_eq_true rfl) E d_X12_tellOne_417 rfl ?_
    refine wa_aload_n 0 rfl E d_X12_tellOne_420 ?_
    refine wa_iload_n 1 rfl E d_X12_tellOne_421 ?_
    obtain ⟨q_3, hq_3, h⟩ := kf_bd h
    refine wa_callV (st2 := []) (c_X12_tellLaw hty v0 v1 k_v0 q_2 hq_3) mv_X12_tellLaw ml_X12_281 k_v0 rfl (Nat.le_of_ble_eq_true rfl) rfl (Nat.le_of_ble_eq_true rfl) E d_X12_tellOne_422 rfl ?_
    cases h
    exact wa_vret E d_X12_tellOne_425
  · replace h := kf_iff c_1 h
    cases h
    exact wa_vret E d_X12_tellOne_415
def f_X12_tellOne_403 (v0 : Nat) (v1 : Int32) (σ : kf_St) : Option kf_St :=
  (f_X12_fail v0 1 σ).bind fun q_1 =>
  f_X12_tellOne_408 v0 v1 q_1
set_option maxRecDepth 100000 in
set_option maxHeartbeats 4000000 in
theorem b_X12_tellOne_403 {X : kf_X} {G : kf_G} {q : kf_St} (E : kf_ok X G cX12_tellOne RX12 3 none (7)) (hty : kf_wt G) (v0 : Nat) (v1 : Int32) (k_v0 : kf_kd G v0 = 13) (σ : kf_St) (h : f_X12_tellOne_403 v0 v1 σ = some q) : kf_WA X G 3 (kf_Q X G none q) 403 [(0, .ref (kf_ad G v0)), (1, .int v1)] [] σ := by
  unfold f_X12_tellOne_403 at h
  refine wa_aload_n 0 rfl E d_X12_tellOne_403 ?_
  refine wa_iconst 1 ic_1 E d_X12_tellOne_404 ?_
  obtain ⟨q_1, hq_1, h⟩ := kf_bd h
  refine wa_callV (st2 := []) (c_X12_fail hty v0 1 k_v0 σ hq_1) mv_X12_fail ml_X12_218 k_v0 rfl (Nat.le_of_ble_eq_true rfl) rfl (Nat.le_of_ble_eq_true rfl) E d_X12_tellOne_405 rfl ?_
  exact b_X12_tellOne_408 E hty v0 v1 k_v0 q_1 h
def f_X12_tellOne_372 (v0 : Nat) (σ : kf_St) : Option kf_St :=
  if kf_ix (σ.1 v0 11) (kf_ln (kf_rf v0 5)) = true then
  kf_lt (((σ.1 (kf_rf v0 5) (Int32.toNatClampNeg (σ.1 v0 11))) - 23)) fun v1_2 =>
  if v1_2 < 0 then
    f_X12_tellOne_403 v0 v1_2 σ
  else
    if kf_ix (σ.1 v0 11) (kf_ln (kf_rf v0 5)) = true then
    if (σ.1 (kf_rf v0 5) (Int32.toNatClampNeg (σ.1 v0 11))) ≤ 25 then
      f_X12_tellOne_408 v0 v1_2 σ
    else
      f_X12_tellOne_403 v0 v1_2 σ
    else none
  else none
set_option maxRecDepth 100000 in
set_option maxHeartbeats 4000000 in
theorem b_X12_tellOne_372 {X : kf_X} {G : kf_G} {q : kf_St} (E : kf_ok X G cX12_tellOne RX12 3 none (7)) (hty : kf_wt G) (v0 : Nat) (k_v0 : kf_kd G v0 = 13) (σ : kf_St) (h : f_X12_tellOne_372 v0 σ = some q) : kf_WA X G 3 (kf_Q X G none q) 372 [(0, .ref (kf_ad G v0))] [] σ := by
  unfold f_X12_tellOne_372 at h
  refine wa_aload_n 0 rfl E d_X12_tellOne_372 ?_
  refine wa_getR fl_X12_20 k_v0 rfl E d_X12_tellOne_373 ?_
  refine wa_aload_n 0 rfl E d_X12_tellOne_376 ?_
  refine wa_getI fl_X12_206 k_v0 rfl E d_X12_tellOne_377 ?_
  obtain ⟨g_1, h⟩ := kf_gd h
  refine wa_iald (kf_wtf hty 5 49 k_v0 (by decide) rfl) g_1 E d_X12_tellOne_380 ?_
  refine wa_bipush 23 bp_23 E d_X12_tellOne_381 ?_
  refine wa_isub E d_X12_tellOne_383 ?_
  obtain ⟨v1_2, ev1_2, h⟩ := kf_lte h
  refine wa_topi ev1_2 ?_
  refine wa_istore_n (lv' := [(1, .int v1_2), (0, .ref (kf_ad G v0))]) rfl (by decide) rfl E d_X12_tellOne_384 ?_
  refine wa_iload_n 0 rfl E d_X12_tellOne_385 ?_
  refine wa_if_lt E d_X12_tellOne_386 (fun c_3 => ?_) (fun c_3 => ?_)
  · replace h := kf_ift c_3 h
    refine wa_sub [1, 0] rfl ?_
    exact b_X12_tellOne_403 E hty v0 v1_2 k_v0 σ h
  · replace h := kf_iff c_3 h
    refine wa_aload_n 1 rfl E d_X12_tellOne_389 ?_
    refine wa_getR fl_X12_20 k_v0 rfl E d_X12_tellOne_390 ?_
    refine wa_aload_n 1 rfl E d_X12_tellOne_393 ?_
    refine wa_getI fl_X12_206 k_v0 rfl E d_X12_tellOne_394 ?_
    obtain ⟨g_4, h⟩ := kf_gd h
    refine wa_iald (kf_wtf hty 5 49 k_v0 (by decide) rfl) g_4 E d_X12_tellOne_397 ?_
    refine wa_bipush 25 bp_25 E d_X12_tellOne_398 ?_
    refine wa_icmp_le E d_X12_tellOne_400 (fun c_5 => ?_) (fun c_5 => ?_)
    · replace h := kf_ift c_5 h
      refine wa_sub [1, 0] rfl ?_
      exact b_X12_tellOne_408 E hty v0 v1_2 k_v0 σ h
    · replace h := kf_iff c_5 h
      refine wa_sub [1, 0] rfl ?_
      exact b_X12_tellOne_403 E hty v0 v1_2 k_v0 σ h
def f_X12_tellOne_90_s (rec90 : Nat → Int32 → Int32 → kf_St → Option kf_St) (v0 : Nat) (v1 : Int32) (v2 : Int32) (σ : kf_St) : Option kf_St :=
  if 4 ≤ v2 then
    if kf_ix (σ.1 v0 19) (kf_ln (kf_rf v0 23)) = true then
    (f_X12_endsName v0 v1 (σ.1 (kf_rf v0 23) (Int32.toNatClampNeg (σ.1 v0 19))) σ).bind fun q_3 =>
    if (q_3.1 v0 13) = 0 then
      if kf_ix (q_3.1 v0 19) (kf_ln (kf_rf v0 23)) = true then
      if kf_ix (q_3.1 v0 19) (kf_ln (kf_rf v0 23)) = true then
      kf_lt (kf_wi q_3 (kf_rf v0 23) (Int32.toNatClampNeg (q_3.1 v0 19)) ((q_3.1 (kf_rf v0 23) (Int32.toNatClampNeg (q_3.1 v0 19))) + 1)) fun σ_7 =>
      some σ_7
      else none
      else none
    else
      some q_3
    else none
  else
    if kf_ix (σ.1 v0 19) (kf_ln (kf_rf v0 23)) = true then
    (f_X12_bounded v0 0 99 σ).bind fun q_9 =>
    if kf_ix (((24 * (σ.1 v0 19)) + (4 * (σ.1 (kf_rf v0 23) (Int32.toNatClampNeg (σ.1 v0 19))))) + v2) (kf_ln (kf_rf v0 24)) = true then
    kf_lt (kf_wi q_9.2 (kf_rf v0 24) (Int32.toNatClampNeg (((24 * (σ.1 v0 19)) + (4 * (σ.1 (kf_rf v0 23) (Int32.toNatClampNeg (σ.1 v0 19))))) + v2)) q_9.1) fun σ_11 =>
    kf_lt (v2 + 1) fun v2_12 =>
    rec90 v0 v1 v2_12 σ_11
    else none
    else none
def f_X12_tellOne_90 : Nat → Nat → Int32 → Int32 → kf_St → Option kf_St
  | 0, _, _, _, _ => none
  | n + 1, v0, v1, v2, σ => f_X12_tellOne_90_s (f_X12_tellOne_90 n) v0 v1 v2 σ
set_option maxRecDepth 100000 in
set_option maxHeartbeats 4000000 in
theorem b_X12_tellOne_90_s {X : kf_X} {G : kf_G} (rec90 : Nat → Int32 → Int32 → kf_St → Option kf_St) {q : kf_St} (E : kf_ok X G cX12_tellOne RX12 3 none (7)) (hty : kf_wt G) (hrec90 : ∀ (v0 : Nat) (v1 : Int32) (v2 : Int32) (k_v0 : kf_kd G v0 = 13) (σ : kf_St), rec90 v0 v1 v2 σ = some q → kf_WA X G 3 (kf_Q X G none q) 90 [(0, .ref (kf_ad G v0)), (1, .int v1), (2, .int v2)] [] σ) (v0 : Nat) (v1 : Int32) (v2 : Int32) (k_v0 : kf_kd G v0 = 13) (σ : kf_St) (h : f_X12_tellOne_90_s rec90 v0 v1 v2 σ = some q) : kf_WA X G 3 (kf_Q X G none q) 90 [(0, .ref (kf_ad G v0)), (1, .int v1), (2, .int v2)] [] σ := by
  unfold f_X12_tellOne_90_s at h
  refine wa_iload_n 2 rfl E d_X12_tellOne_90 ?_
  refine wa_iconst 4 ic_4 E d_X12_tellOne_91 ?_
  refine wa_icmp_ge E d_X12_tellOne_92 (fun c_1 => ?_) (fun c_1 => ?_)
  · replace h := kf_ift c_1 h
    refine wa_aload_n 0 rfl E d_X12_tellOne_134 ?_
    refine wa_iload_n 1 rfl E d_X12_tellOne_135 ?_
    refine wa_aload_n 0 rfl E d_X12_tellOne_136 ?_
    refine wa_getR fl_X12_46 k_v0 rfl E d_X12_tellOne_137 ?_
    refine wa_aload_n 0 rfl E d_X12_tellOne_140 ?_
    refine wa_getI fl_X12_236 k_v0 rfl E d_X12_tellOne_141 ?_
    obtain ⟨g_2, h⟩ := kf_gd h
    refine wa_iald (kf_wtf hty 23 49 k_v0 (by decide) rfl) g_2 E d_X12_tellOne_144 ?_
    obtain ⟨q_3, hq_3, h⟩ := kf_bd h
    refine wa_callV (st2 := []) (c_X12_endsName hty v0 v1 (σ.1 (kf_rf v0 23) (Int32.toNatClampNeg (σ.1 v0 19))) k_v0 σ hq_3) mv_X12_endsName ml_X12_272 k_v0 rfl (Nat.le_of_ble_eq_true rfl) rfl (Nat.le_of_ble_eq_true rfl) E d_X12_tellOne_145 rfl ?_
    refine wa_aload_n 0 rfl E d_X12_tellOne_148 ?_
    refine wa_getI fl_X12_203 k_v0 rfl E d_X12_tellOne_149 ?_
    refine wa_if_ne E d_X12_tellOne_152 (fun c_4 => ?_) (fun c_4 => ?_)
    · replace h := kf_iff c_4 h
      cases h
      exact wa_vret E d_X12_tellOne_425
    · replace h := kf_ift c_4 h
      refine wa_aload_n 0 rfl E d_X12_tellOne_155 ?_
      refine wa_getR fl_X12_46 k_v0 rfl E d_X12_tellOne_156 ?_
      refine wa_aload_n 0 rfl E d_X12_tellOne_159 ?_
      refine wa_getI fl_X12_236 k_v0 rfl E d_X12_tellOne_160 ?_
      refine wa_dup2 rfl rfl E d_X12_tellOne_163 ?_
      obtain ⟨g_5, h⟩ := kf_gd h
      refine wa_iald (kf_wtf hty 23 49 k_v0 (by decide) rfl) g_5 E d_X12_tellOne_164 ?_
      refine wa_iconst 1 ic_1 E d_X12_tellOne_165 ?_
      refine wa_iadd E d_X12_tellOne_166 ?_
      obtain ⟨g_6, h⟩ := kf_gd h
      obtain ⟨σ_7, eσ_7, h⟩ := kf_lte h
      refine wa_iast (kf_wtf hty 23 49 k_v0 (by decide) rfl) g_6 E d_X12_tellOne_167 eσ_7 ?_
      refine wa_goto E d_X12_tellOne_168 ?_
      cases h
      exact wa_vret E d_X12_tellOne_425
  · replace h := kf_iff c_1 h
    refine wa_aload_n 0 rfl E d_X12_tellOne_95 ?_
    refine wa_getR fl_X12_49 k_v0 rfl E d_X12_tellOne_96 ?_
    refine wa_bipush 24 bp_24 E d_X12_tellOne_99 ?_
    refine wa_aload_n 0 rfl E d_X12_tellOne_101 ?_
    refine wa_getI fl_X12_236 k_v0 rfl E d_X12_tellOne_102 ?_
    refine wa_imul E d_X12_tellOne_105 ?_
    refine wa_iconst 4 ic_4 E d_X12_tellOne_106 ?_
    refine wa_aload_n 0 rfl E d_X12_tellOne_107 ?_
    refine wa_getR fl_X12_46 k_v0 rfl E d_X12_tellOne_108 ?_
    refine wa_aload_n 0 rfl E d_X12_tellOne_111 ?_
    refine wa_getI fl_X12_236 k_v0 rfl E d_X12_tellOne_112 ?_
    obtain ⟨g_8, h⟩ := kf_gd h
    refine wa_iald (kf_wtf hty 23 49 k_v0 (by decide) rfl) g_8 E d_X12_tellOne_115 ?_
    refine wa_imul E d_X12_tellOne_116 ?_
    refine wa_iadd E d_X12_tellOne_117 ?_
    refine wa_iload_n 2 rfl E d_X12_tellOne_118 ?_
    refine wa_iadd E d_X12_tellOne_119 ?_
    refine wa_aload_n 0 rfl E d_X12_tellOne_120 ?_
    refine wa_iconst 0 ic_0 E d_X12_tellOne_121 ?_
    refine wa_bipush 99 bp_99 E d_X12_tellOne_122 ?_
    obtain ⟨q_9, hq_9, h⟩ := kf_bd h
    refine wa_callV (st2 := [.int q_9.1, .int (((24 * (σ.1 v0 19)) + (4 * (σ.1 (kf_rf v0 23) (Int32.toNatClampNeg (σ.1 v0 19))))) + v2), .ref (kf_ad G (kf_rf v0 24))]) (c_X12_bounded hty v0 0 99 k_v0 σ hq_9) mv_X12_bounded ml_X12_257 k_v0 rfl (Nat.le_of_ble_eq_true rfl) rfl (Nat.le_of_ble_eq_true rfl) E d_X12_tellOne_124 rfl ?_
    obtain ⟨g_10, h⟩ := kf_gd h
    obtain ⟨σ_11, eσ_11, h⟩ := kf_lte h
    refine wa_iast (kf_wtf hty 24 49 k_v0 (by decide) rfl) g_10 E d_X12_tellOne_127 eσ_11 ?_
    obtain ⟨v2_12, ev2_12, h⟩ := kf_lte h
    refine wa_iinc (lv' := [(2, .int v2_12), (0, .ref (kf_ad G v0)), (1, .int v1)]) v2_12 2 rfl (kf_inc ic_1 ev2_12) (by decide) rfl E d_X12_tellOne_128 ?_
    refine wa_goto E d_X12_tellOne_131 ?_
    refine wa_sub [1, 2, 0] rfl ?_
    exact hrec90 v0 v1 v2_12 k_v0 σ_11 h
theorem b_X12_tellOne_90 {X : kf_X} {G : kf_G} {q : kf_St} (E : kf_ok X G cX12_tellOne RX12 3 none (7)) (hty : kf_wt G) : ∀ (N : Nat) (v0 : Nat) (v1 : Int32) (v2 : Int32) (k_v0 : kf_kd G v0 = 13) (σ : kf_St) (_ : f_X12_tellOne_90 N v0 v1 v2 σ = some q), kf_WA X G 3 (kf_Q X G none q) 90 [(0, .ref (kf_ad G v0)), (1, .int v1), (2, .int v2)] [] σ
  | 0, _, _, _, _, _, h => by cases h
  | N + 1, v0, v1, v2, k_v0, σ, h => b_X12_tellOne_90_s _ E hty (b_X12_tellOne_90 E hty N) v0 v1 v2 k_v0 σ h
def f_X12_tellOne_200_s (rec200 : Nat → Int32 → Int32 → kf_St → Option kf_St) (v0 : Nat) (v1 : Int32) (v2 : Int32) (σ : kf_St) : Option kf_St :=
  if 4 ≤ v2 then
    if kf_ix (σ.1 v0 19) (kf_ln (kf_rf v0 25)) = true then
    (f_X12_endsName v0 v1 (10 + (σ.1 (kf_rf v0 25) (Int32.toNatClampNeg (σ.1 v0 19)))) σ).bind fun q_3 =>
    if (q_3.1 v0 13) = 0 then
      if kf_ix (q_3.1 v0 19) (kf_ln (kf_rf v0 25)) = true then
      if kf_ix (q_3.1 v0 19) (kf_ln (kf_rf v0 25)) = true then
      kf_lt (kf_wi q_3 (kf_rf v0 25) (Int32.toNatClampNeg (q_3.1 v0 19)) ((q_3.1 (kf_rf v0 25) (Int32.toNatClampNeg (q_3.1 v0 19))) + 1)) fun σ_7 =>
      some σ_7
      else none
      else none
    else
      some q_3
    else none
  else
    if kf_ix (σ.1 v0 19) (kf_ln (kf_rf v0 25)) = true then
    (f_X12_bounded v0 0 99 σ).bind fun q_9 =>
    if kf_ix (((20 * (σ.1 v0 19)) + (4 * (σ.1 (kf_rf v0 25) (Int32.toNatClampNeg (σ.1 v0 19))))) + v2) (kf_ln (kf_rf v0 26)) = true then
    kf_lt (kf_wi q_9.2 (kf_rf v0 26) (Int32.toNatClampNeg (((20 * (σ.1 v0 19)) + (4 * (σ.1 (kf_rf v0 25) (Int32.toNatClampNeg (σ.1 v0 19))))) + v2)) q_9.1) fun σ_11 =>
    kf_lt (v2 + 1) fun v2_12 =>
    rec200 v0 v1 v2_12 σ_11
    else none
    else none
def f_X12_tellOne_200 : Nat → Nat → Int32 → Int32 → kf_St → Option kf_St
  | 0, _, _, _, _ => none
  | n + 1, v0, v1, v2, σ => f_X12_tellOne_200_s (f_X12_tellOne_200 n) v0 v1 v2 σ
set_option maxRecDepth 100000 in
set_option maxHeartbeats 4000000 in
theorem b_X12_tellOne_200_s {X : kf_X} {G : kf_G} (rec200 : Nat → Int32 → Int32 → kf_St → Option kf_St) {q : kf_St} (E : kf_ok X G cX12_tellOne RX12 3 none (7)) (hty : kf_wt G) (hrec200 : ∀ (v0 : Nat) (v1 : Int32) (v2 : Int32) (k_v0 : kf_kd G v0 = 13) (σ : kf_St), rec200 v0 v1 v2 σ = some q → kf_WA X G 3 (kf_Q X G none q) 200 [(0, .ref (kf_ad G v0)), (1, .int v1), (2, .int v2)] [] σ) (v0 : Nat) (v1 : Int32) (v2 : Int32) (k_v0 : kf_kd G v0 = 13) (σ : kf_St) (h : f_X12_tellOne_200_s rec200 v0 v1 v2 σ = some q) : kf_WA X G 3 (kf_Q X G none q) 200 [(0, .ref (kf_ad G v0)), (1, .int v1), (2, .int v2)] [] σ := by
  unfold f_X12_tellOne_200_s at h
  refine wa_iload_n 2 rfl E d_X12_tellOne_200 ?_
  refine wa_iconst 4 ic_4 E d_X12_tellOne_201 ?_
  refine wa_icmp_ge E d_X12_tellOne_202 (fun c_1 => ?_) (fun c_1 => ?_)
  · replace h := kf_ift c_1 h
    refine wa_aload_n 0 rfl E d_X12_tellOne_244 ?_
    refine wa_iload_n 1 rfl E d_X12_tellOne_245 ?_
    refine wa_bipush 10 bp_10 E d_X12_tellOne_246 ?_
    refine wa_aload_n 0 rfl E d_X12_tellOne_248 ?_
    refine wa_getR fl_X12_52 k_v0 rfl E d_X12_tellOne_249 ?_
    refine wa_aload_n 0 rfl E d_X12_tellOne_252 ?_
    refine wa_getI fl_X12_236 k_v0 rfl E d_X12_tellOne_253 ?_
    obtain ⟨g_2, h⟩ := kf_gd h
    refine wa_iald (kf_wtf hty 25 49 k_v0 (by decide) rfl) g_2 E d_X12_tellOne_256 ?_
    refine wa_iadd E d_X12_tellOne_257 ?_
    obtain ⟨q_3, hq_3, h⟩ := kf_bd h
    refine wa_callV (st2 := []) (c_X12_endsName hty v0 v1 (10 + (σ.1 (kf_rf v0 25) (Int32.toNatClampNeg (σ.1 v0 19)))) k_v0 σ hq_3) mv_X12_endsName ml_X12_272 k_v0 rfl (Nat.le_of_ble_eq_true rfl) rfl (Nat.le_of_ble_eq_true rfl) E d_X12_tellOne_258 rfl ?_
    refine wa_aload_n 0 rfl E d_X12_tellOne_261 ?_
    refine wa_getI fl_X12_203 k_v0 rfl E d_X12_tellOne_262 ?_
    refine wa_if_ne E d_X12_tellOne_265 (fun c_4 => ?_) (fun c_4 => ?_)
    · replace h := kf_iff c_4 h
      cases h
      exact wa_vret E d_X12_tellOne_425
    · replace h := kf_ift c_4 h
      refine wa_aload_n 0 rfl E d_X12_tellOne_268 ?_
      refine wa_getR fl_X12_52 k_v0 rfl E d_X12_tellOne_269 ?_
      refine wa_aload_n 0 rfl E d_X12_tellOne_272 ?_
      refine wa_getI fl_X12_236 k_v0 rfl E d_X12_tellOne_273 ?_
      refine wa_dup2 rfl rfl E d_X12_tellOne_276 ?_
      obtain ⟨g_5, h⟩ := kf_gd h
      refine wa_iald (kf_wtf hty 25 49 k_v0 (by decide) rfl) g_5 E d_X12_tellOne_277 ?_
      refine wa_iconst 1 ic_1 E d_X12_tellOne_278 ?_
      refine wa_iadd E d_X12_tellOne_279 ?_
      obtain ⟨g_6, h⟩ := kf_gd h
      obtain ⟨σ_7, eσ_7, h⟩ := kf_lte h
      refine wa_iast (kf_wtf hty 25 49 k_v0 (by decide) rfl) g_6 E d_X12_tellOne_280 eσ_7 ?_
      refine wa_goto E d_X12_tellOne_281 ?_
      cases h
      exact wa_vret E d_X12_tellOne_425
  · replace h := kf_iff c_1 h
    refine wa_aload_n 0 rfl E d_X12_tellOne_205 ?_
    refine wa_getR fl_X12_55 k_v0 rfl E d_X12_tellOne_206 ?_
    refine wa_bipush 20 bp_20 E d_X12_tellOne_209 ?_
    refine wa_aload_n 0 rfl E d_X12_tellOne_211 ?_
    refine wa_getI fl_X12_236 k_v0 rfl E d_X12_tellOne_212 ?_
    refine wa_imul E d_X12_tellOne_215 ?_
    refine wa_iconst 4 ic_4 E d_X12_tellOne_216 ?_
    refine wa_aload_n 0 rfl E d_X12_tellOne_217 ?_
    refine wa_getR fl_X12_52 k_v0 rfl E d_X12_tellOne_218 ?_
    refine wa_aload_n 0 rfl E d_X12_tellOne_221 ?_
    refine wa_getI fl_X12_236 k_v0 rfl E d_X12_tellOne_222 ?_
    obtain ⟨g_8, h⟩ := kf_gd h
    refine wa_iald (kf_wtf hty 25 49 k_v0 (by decide) rfl) g_8 E d_X12_tellOne_225 ?_
    refine wa_imul E d_X12_tellOne_226 ?_
    refine wa_iadd E d_X12_tellOne_227 ?_
    refine wa_iload_n 2 rfl E d_X12_tellOne_228 ?_
    refine wa_iadd E d_X12_tellOne_229 ?_
    refine wa_aload_n 0 rfl E d_X12_tellOne_230 ?_
    refine wa_iconst 0 ic_0 E d_X12_tellOne_231 ?_
    refine wa_bipush 99 bp_99 E d_X12_tellOne_232 ?_
    obtain ⟨q_9, hq_9, h⟩ := kf_bd h
    refine wa_callV (st2 := [.int q_9.1, .int (((20 * (σ.1 v0 19)) + (4 * (σ.1 (kf_rf v0 25) (Int32.toNatClampNeg (σ.1 v0 19))))) + v2), .ref (kf_ad G (kf_rf v0 26))]) (c_X12_bounded hty v0 0 99 k_v0 σ hq_9) mv_X12_bounded ml_X12_257 k_v0 rfl (Nat.le_of_ble_eq_true rfl) rfl (Nat.le_of_ble_eq_true rfl) E d_X12_tellOne_234 rfl ?_
    obtain ⟨g_10, h⟩ := kf_gd h
    obtain ⟨σ_11, eσ_11, h⟩ := kf_lte h
    refine wa_iast (kf_wtf hty 26 49 k_v0 (by decide) rfl) g_10 E d_X12_tellOne_237 eσ_11 ?_
    obtain ⟨v2_12, ev2_12, h⟩ := kf_lte h
    refine wa_iinc (lv' := [(2, .int v2_12), (0, .ref (kf_ad G v0)), (1, .int v1)]) v2_12 2 rfl (kf_inc ic_1 ev2_12) (by decide) rfl E d_X12_tellOne_238 ?_
    refine wa_goto E d_X12_tellOne_241 ?_
    refine wa_sub [1, 2, 0] rfl ?_
    exact hrec200 v0 v1 v2_12 k_v0 σ_11 h
theorem b_X12_tellOne_200 {X : kf_X} {G : kf_G} {q : kf_St} (E : kf_ok X G cX12_tellOne RX12 3 none (7)) (hty : kf_wt G) : ∀ (N : Nat) (v0 : Nat) (v1 : Int32) (v2 : Int32) (k_v0 : kf_kd G v0 = 13) (σ : kf_St) (_ : f_X12_tellOne_200 N v0 v1 v2 σ = some q), kf_WA X G 3 (kf_Q X G none q) 200 [(0, .ref (kf_ad G v0)), (1, .int v1), (2, .int v2)] [] σ
  | 0, _, _, _, _, _, h => by cases h
  | N + 1, v0, v1, v2, k_v0, σ, h => b_X12_tellOne_200_s _ E hty (b_X12_tellOne_200 E hty N) v0 v1 v2 k_v0 σ h
def f_X12_tellOne (v0 : Nat) (σ : kf_St) : Option kf_St :=
  if kf_ix (σ.1 v0 11) (kf_ln (kf_rf v0 5)) = true then
  if (σ.1 (kf_rf v0 5) (Int32.toNatClampNeg (σ.1 v0 11))) = 20 then
    if kf_ix (σ.1 v0 19) (kf_ln (kf_rf v0 23)) = true then
    (f_X12_roomFor v0 (σ.1 (kf_rf v0 23) (Int32.toNatClampNeg (σ.1 v0 19))) 6 σ).bind fun q_4 =>
    if (q_4.1 v0 13) ≤ 0 then
      (f_X12_named v0 q_4).bind fun q_6 =>
      f_X12_tellOne_90 kf_F v0 q_6.1 0 q_6.2
    else
      some q_4
    else none
  else
    if (σ.1 (kf_rf v0 5) (Int32.toNatClampNeg (σ.1 v0 11))) = 21 then
      if kf_ix (σ.1 v0 19) (kf_ln (kf_rf v0 25)) = true then
      (f_X12_roomFor v0 (σ.1 (kf_rf v0 25) (Int32.toNatClampNeg (σ.1 v0 19))) 5 σ).bind fun q_9 =>
      if (q_9.1 v0 13) ≤ 0 then
        (f_X12_named v0 q_9).bind fun q_11 =>
        f_X12_tellOne_200 kf_F v0 q_11.1 0 q_11.2
      else
        some q_9
      else none
    else
      if (σ.1 (kf_rf v0 5) (Int32.toNatClampNeg (σ.1 v0 11))) = 22 then
        if kf_ix (σ.1 v0 19) (kf_ln (kf_rf v0 27)) = true then
        (f_X12_roomFor v0 (σ.1 (kf_rf v0 27) (Int32.toNatClampNeg (σ.1 v0 19))) 10 σ).bind fun q_14 =>
        if (q_14.1 v0 13) = 0 then
          (f_X12_tellRound v0 q_14).bind fun q_16 =>
          some q_16
        else
          some q_14
        else none
      else
        if (σ.1 (kf_rf v0 5) (Int32.toNatClampNeg (σ.1 v0 11))) = 26 then
          (f_X12_toldInt v0 0 100 σ).bind fun q_18 =>
          if kf_ix (σ.1 v0 19) (kf_ln (kf_rf v0 32)) = true then
          kf_lt (kf_wi q_18.2 (kf_rf v0 32) (Int32.toNatClampNeg (σ.1 v0 19)) q_18.1) fun σ_20 =>
          some σ_20
          else none
        else
          if (σ.1 (kf_rf v0 5) (Int32.toNatClampNeg (σ.1 v0 11))) = 27 then
            (f_X12_toldInt v0 0 396 σ).bind fun q_22 =>
            if kf_ix (σ.1 v0 19) (kf_ln (kf_rf v0 33)) = true then
            kf_lt (kf_wi q_22.2 (kf_rf v0 33) (Int32.toNatClampNeg (σ.1 v0 19)) q_22.1) fun σ_24 =>
            some σ_24
            else none
          else
            if (σ.1 (kf_rf v0 5) (Int32.toNatClampNeg (σ.1 v0 11))) = 28 then
              (f_X12_toldInt v0 0 9999 σ).bind fun q_26 =>
              if kf_ix (σ.1 v0 19) (kf_ln (kf_rf v0 34)) = true then
              kf_lt (kf_wi q_26.2 (kf_rf v0 34) (Int32.toNatClampNeg (σ.1 v0 19)) q_26.1) fun σ_28 =>
              some σ_28
              else none
            else
              f_X12_tellOne_372 v0 σ
  else none
set_option maxRecDepth 100000 in
set_option maxHeartbeats 4000000 in
theorem c_X12_tellOne {G : kf_G} (hty : kf_wt G) (v0 : Nat) (k_v0 : kf_kd G v0 = 13) (σ : kf_St) {q : kf_St} (h : f_X12_tellOne v0 σ = some q) : kf_Ct (7) yX12_tellOne cX12_tellOne 3 none G [.ref (kf_ad G v0)] σ none q := by
  refine kf_Ct.of hty.1 (lv := [(0, .ref (kf_ad G v0))]) (by decide +kernel) rfl (Nat.le_of_ble_eq_true rfl) (fun X E => ?_)
  unfold f_X12_tellOne at h
  refine wa_aload_n 0 rfl E d_X12_tellOne_0 ?_
  refine wa_getR fl_X12_20 k_v0 rfl E d_X12_tellOne_1 ?_
  refine wa_aload_n 0 rfl E d_X12_tellOne_4 ?_
  refine wa_getI fl_X12_206 k_v0 rfl E d_X12_tellOne_5 ?_
  obtain ⟨g_1, h⟩ := kf_gd h
  refine wa_iald (kf_wtf hty 5 49 k_v0 (by decide) rfl) g_1 E d_X12_tellOne_8 ?_
  by_cases c_2 : (σ.1 (kf_rf v0 5) (Int32.toNatClampNeg (σ.1 v0 11))) = 20
  · replace h := kf_ift c_2 h
    refine wa_tabIn (off := 51) (tgt := 60) (by rw [c_2]; decide) (by rw [c_2]; decide) (by rw [c_2]; rfl) (by decide) E d_X12_tellOne_9 ?_
    refine wa_aload_n 0 rfl E d_X12_tellOne_60 ?_
    refine wa_aload_n 0 rfl E d_X12_tellOne_61 ?_
    refine wa_getR fl_X12_46 k_v0 rfl E d_X12_tellOne_62 ?_
    refine wa_aload_n 0 rfl E d_X12_tellOne_65 ?_
    refine wa_getI fl_X12_236 k_v0 rfl E d_X12_tellOne_66 ?_
    obtain ⟨g_3, h⟩ := kf_gd h
    refine wa_iald (kf_wtf hty 23 49 k_v0 (by decide) rfl) g_3 E d_X12_tellOne_69 ?_
    refine wa_bipush 6 bp_6 E d_X12_tellOne_70 ?_
    obtain ⟨q_4, hq_4, h⟩ := kf_bd h
    refine wa_callV (st2 := []) (c_X12_roomFor hty v0 (σ.1 (kf_rf v0 23) (Int32.toNatClampNeg (σ.1 v0 19))) 6 k_v0 σ hq_4) mv_X12_roomFor ml_X12_264 k_v0 rfl (Nat.le_of_ble_eq_true rfl) rfl (Nat.le_of_ble_eq_true rfl) E d_X12_tellOne_72 rfl ?_
    refine wa_aload_n 0 rfl E d_X12_tellOne_75 ?_
    refine wa_getI fl_X12_203 k_v0 rfl E d_X12_tellOne_76 ?_
    refine wa_if_le E d_X12_tellOne_79 (fun c_5 => ?_) (fun c_5 => ?_)
    · replace h := kf_ift c_5 h
      refine wa_aload_n 0 rfl E d_X12_tellOne_83 ?_
      obtain ⟨q_6, hq_6, h⟩ := kf_bd h
      refine wa_callV (st2 := [.int q_6.1]) (c_X12_named hty v0 k_v0 q_4 hq_6) mv_X12_named ml_X12_268 k_v0 rfl (Nat.le_of_ble_eq_true rfl) rfl (Nat.le_of_ble_eq_true rfl) E d_X12_tellOne_84 rfl ?_
      refine wa_istore_n (lv' := [(1, .int q_6.1), (0, .ref (kf_ad G v0))]) rfl (by decide) rfl E d_X12_tellOne_87 ?_
      refine wa_iconst 0 ic_0 E d_X12_tellOne_88 ?_
      refine wa_istore_n (lv' := [(2, .int 0), (1, .int q_6.1), (0, .ref (kf_ad G v0))]) rfl (by decide) rfl E d_X12_tellOne_89 ?_
      refine wa_sub [2, 1, 0] rfl ?_
      exact b_X12_tellOne_90 E hty kf_F v0 q_6.1 0 k_v0 q_6.2 h
    · replace h := kf_iff c_5 h
      cases h
      exact wa_vret E d_X12_tellOne_82
  · replace h := kf_iff c_2 h
    by_cases c_7 : (σ.1 (kf_rf v0 5) (Int32.toNatClampNeg (σ.1 v0 11))) = 21
    · replace h := kf_ift c_7 h
      refine wa_tabIn (off := 162) (tgt := 171) (by rw [c_7]; decide) (by rw [c_7]; decide) (by rw [c_7]; rfl) (by decide) E d_X12_tellOne_9 ?_
      refine wa_aload_n 0 rfl E d_X12_tellOne_171 ?_
      refine wa_aload_n 0 rfl E d_X12_tellOne_172 ?_
      refine wa_getR fl_X12_52 k_v0 rfl E d_X12_tellOne_173 ?_
      refine wa_aload_n 0 rfl E d_X12_tellOne_176 ?_
      refine wa_getI fl_X12_236 k_v0 rfl E d_X12_tellOne_177 ?_
      obtain ⟨g_8, h⟩ := kf_gd h
      refine wa_iald (kf_wtf hty 25 49 k_v0 (by decide) rfl) g_8 E d_X12_tellOne_180 ?_
      refine wa_iconst 5 ic_5 E d_X12_tellOne_181 ?_
      obtain ⟨q_9, hq_9, h⟩ := kf_bd h
      refine wa_callV (st2 := []) (c_X12_roomFor hty v0 (σ.1 (kf_rf v0 25) (Int32.toNatClampNeg (σ.1 v0 19))) 5 k_v0 σ hq_9) mv_X12_roomFor ml_X12_264 k_v0 rfl (Nat.le_of_ble_eq_true rfl) rfl (Nat.le_of_ble_eq_true rfl) E d_X12_tellOne_182 rfl ?_
      refine wa_aload_n 0 rfl E d_X12_tellOne_185 ?_
      refine wa_getI fl_X12_203 k_v0 rfl E d_X12_tellOne_186 ?_
      refine wa_if_le E d_X12_tellOne_189 (fun c_10 => ?_) (fun c_10 => ?_)
      · replace h := kf_ift c_10 h
        refine wa_aload_n 0 rfl E d_X12_tellOne_193 ?_
        obtain ⟨q_11, hq_11, h⟩ := kf_bd h
        refine wa_callV (st2 := [.int q_11.1]) (c_X12_named hty v0 k_v0 q_9 hq_11) mv_X12_named ml_X12_268 k_v0 rfl (Nat.le_of_ble_eq_true rfl) rfl (Nat.le_of_ble_eq_true rfl) E d_X12_tellOne_194 rfl ?_
        refine wa_istore_n (lv' := [(1, .int q_11.1), (0, .ref (kf_ad G v0))]) rfl (by decide) rfl E d_X12_tellOne_197 ?_
        refine wa_iconst 0 ic_0 E d_X12_tellOne_198 ?_
        refine wa_istore_n (lv' := [(2, .int 0), (1, .int q_11.1), (0, .ref (kf_ad G v0))]) rfl (by decide) rfl E d_X12_tellOne_199 ?_
        refine wa_sub [2, 1, 0] rfl ?_
        exact b_X12_tellOne_200 E hty kf_F v0 q_11.1 0 k_v0 q_11.2 h
      · replace h := kf_iff c_10 h
        cases h
        exact wa_vret E d_X12_tellOne_192
    · replace h := kf_iff c_7 h
      by_cases c_12 : (σ.1 (kf_rf v0 5) (Int32.toNatClampNeg (σ.1 v0 11))) = 22
      · replace h := kf_ift c_12 h
        refine wa_tabIn (off := 275) (tgt := 284) (by rw [c_12]; decide) (by rw [c_12]; decide) (by rw [c_12]; rfl) (by decide) E d_X12_tellOne_9 ?_
        refine wa_aload_n 0 rfl E d_X12_tellOne_284 ?_
        refine wa_aload_n 0 rfl E d_X12_tellOne_285 ?_
        refine wa_getR fl_X12_58 k_v0 rfl E d_X12_tellOne_286 ?_
        refine wa_aload_n 0 rfl E d_X12_tellOne_289 ?_
        refine wa_getI fl_X12_236 k_v0 rfl E d_X12_tellOne_290 ?_
        obtain ⟨g_13, h⟩ := kf_gd h
        refine wa_iald (kf_wtf hty 27 49 k_v0 (by decide) rfl) g_13 E d_X12_tellOne_293 ?_
        refine wa_bipush 10 bp_10 E d_X12_tellOne_294 ?_
        obtain ⟨q_14, hq_14, h⟩ := kf_bd h
        refine wa_callV (st2 := []) (c_X12_roomFor hty v0 (σ.1 (kf_rf v0 27) (Int32.toNatClampNeg (σ.1 v0 19))) 10 k_v0 σ hq_14) mv_X12_roomFor ml_X12_264 k_v0 rfl (Nat.le_of_ble_eq_true rfl) rfl (Nat.le_of_ble_eq_true rfl) E d_X12_tellOne_296 rfl ?_
        refine wa_aload_n 0 rfl E d_X12_tellOne_299 ?_
        refine wa_getI fl_X12_203 k_v0 rfl E d_X12_tellOne_300 ?_
        refine wa_if_ne E d_X12_tellOne_303 (fun c_15 => ?_) (fun c_15 => ?_)
        · replace h := kf_iff c_15 h
          cases h
          exact wa_vret E d_X12_tellOne_425
        · replace h := kf_ift c_15 h
          refine wa_aload_n 0 rfl E d_X12_tellOne_306 ?_
          obtain ⟨q_16, hq_16, h⟩ := kf_bd h
          refine wa_callV (st2 := []) (c_X12_tellRound hty v0 k_v0 q_14 hq_16) mv_X12_tellRound ml_X12_275 k_v0 rfl (Nat.le_of_ble_eq_true rfl) rfl (Nat.le_of_ble_eq_true rfl) E d_X12_tellOne_307 rfl ?_
          refine wa_goto E d_X12_tellOne_310 ?_
          cases h
          exact wa_vret E d_X12_tellOne_425
      · replace h := kf_iff c_12 h
        by_cases c_17 : (σ.1 (kf_rf v0 5) (Int32.toNatClampNeg (σ.1 v0 11))) = 26
        · replace h := kf_ift c_17 h
          refine wa_tabIn (off := 304) (tgt := 313) (by rw [c_17]; decide) (by rw [c_17]; decide) (by rw [c_17]; rfl) (by decide) E d_X12_tellOne_9 ?_
          refine wa_aload_n 0 rfl E d_X12_tellOne_313 ?_
          refine wa_getR fl_X12_73 k_v0 rfl E d_X12_tellOne_314 ?_
          refine wa_aload_n 0 rfl E d_X12_tellOne_317 ?_
          refine wa_getI fl_X12_236 k_v0 rfl E d_X12_tellOne_318 ?_
          refine wa_aload_n 0 rfl E d_X12_tellOne_321 ?_
          refine wa_iconst 0 ic_0 E d_X12_tellOne_322 ?_
          refine wa_bipush 100 bp_100 E d_X12_tellOne_323 ?_
          obtain ⟨q_18, hq_18, h⟩ := kf_bd h
          refine wa_callV (st2 := [.int q_18.1, .int (σ.1 v0 19), .ref (kf_ad G (kf_rf v0 32))]) (c_X12_toldInt hty v0 0 100 k_v0 σ hq_18) mv_X12_toldInt ml_X12_278 k_v0 rfl (Nat.le_of_ble_eq_true rfl) rfl (Nat.le_of_ble_eq_true rfl) E d_X12_tellOne_325 rfl ?_
          obtain ⟨g_19, h⟩ := kf_gd h
          obtain ⟨σ_20, eσ_20, h⟩ := kf_lte h
          refine wa_iast (kf_wtf hty 32 49 k_v0 (by decide) rfl) g_19 E d_X12_tellOne_328 eσ_20 ?_
          refine wa_goto E d_X12_tellOne_329 ?_
          cases h
          exact wa_vret E d_X12_tellOne_425
        · replace h := kf_iff c_17 h
          by_cases c_21 : (σ.1 (kf_rf v0 5) (Int32.toNatClampNeg (σ.1 v0 11))) = 27
          · replace h := kf_ift c_21 h
            refine wa_tabIn (off := 323) (tgt := 332) (by rw [c_21]; decide) (by rw [c_21]; decide) (by rw [c_21]; rfl) (by decide) E d_X12_tellOne_9 ?_
            refine wa_aload_n 0 rfl E d_X12_tellOne_332 ?_
            refine wa_getR fl_X12_76 k_v0 rfl E d_X12_tellOne_333 ?_
            refine wa_aload_n 0 rfl E d_X12_tellOne_336 ?_
            refine wa_getI fl_X12_236 k_v0 rfl E d_X12_tellOne_337 ?_
            refine wa_aload_n 0 rfl E d_X12_tellOne_340 ?_
            refine wa_iconst 0 ic_0 E d_X12_tellOne_341 ?_
            refine wa_sipush 396 sp_396 E d_X12_tellOne_342 ?_
            obtain ⟨q_22, hq_22, h⟩ := kf_bd h
            refine wa_callV (st2 := [.int q_22.1, .int (σ.1 v0 19), .ref (kf_ad G (kf_rf v0 33))]) (c_X12_toldInt hty v0 0 396 k_v0 σ hq_22) mv_X12_toldInt ml_X12_278 k_v0 rfl (Nat.le_of_ble_eq_true rfl) rfl (Nat.le_of_ble_eq_true rfl) E d_X12_tellOne_345 rfl ?_
            obtain ⟨g_23, h⟩ := kf_gd h
            obtain ⟨σ_24, eσ_24, h⟩ := kf_lte h
            refine wa_iast (kf_wtf hty 33 49 k_v0 (by decide) rfl) g_23 E d_X12_tellOne_348 eσ_24 ?_
            refine wa_goto E d_X12_tellOne_349 ?_
            cases h
            exact wa_vret E d_X12_tellOne_425
          · replace h := kf_iff c_21 h
            by_cases c_25 : (σ.1 (kf_rf v0 5) (Int32.toNatClampNeg (σ.1 v0 11))) = 28
            · replace h := kf_ift c_25 h
              refine wa_tabIn (off := 343) (tgt := 352) (by rw [c_25]; decide) (by rw [c_25]; decide) (by rw [c_25]; rfl) (by decide) E d_X12_tellOne_9 ?_
              refine wa_aload_n 0 rfl E d_X12_tellOne_352 ?_
              refine wa_getR fl_X12_79 k_v0 rfl E d_X12_tellOne_353 ?_
              refine wa_aload_n 0 rfl E d_X12_tellOne_356 ?_
              refine wa_getI fl_X12_236 k_v0 rfl E d_X12_tellOne_357 ?_
              refine wa_aload_n 0 rfl E d_X12_tellOne_360 ?_
              refine wa_iconst 0 ic_0 E d_X12_tellOne_361 ?_
              refine wa_sipush 9999 sp_9999 E d_X12_tellOne_362 ?_
              obtain ⟨q_26, hq_26, h⟩ := kf_bd h
              refine wa_callV (st2 := [.int q_26.1, .int (σ.1 v0 19), .ref (kf_ad G (kf_rf v0 34))]) (c_X12_toldInt hty v0 0 9999 k_v0 σ hq_26) mv_X12_toldInt ml_X12_278 k_v0 rfl (Nat.le_of_ble_eq_true rfl) rfl (Nat.le_of_ble_eq_true rfl) E d_X12_tellOne_365 rfl ?_
              obtain ⟨g_27, h⟩ := kf_gd h
              obtain ⟨σ_28, eσ_28, h⟩ := kf_lte h
              refine wa_iast (kf_wtf hty 34 49 k_v0 (by decide) rfl) g_27 E d_X12_tellOne_368 eσ_28 ?_
              refine wa_goto E d_X12_tellOne_369 ?_
              cases h
              exact wa_vret E d_X12_tellOne_425
            · replace h := kf_iff c_25 h
              by_cases c_29 : (σ.1 (kf_rf v0 5) (Int32.toNatClampNeg (σ.1 v0 11))) = 23
              · refine wa_tabIn (off := 363) (tgt := 372) (by rw [c_29]; decide) (by rw [c_29]; decide) (by rw [c_29]; rfl) (by decide) E d_X12_tellOne_9 ?_
                exact b_X12_tellOne_372 E hty v0 k_v0 σ h
              by_cases c_30 : (σ.1 (kf_rf v0 5) (Int32.toNatClampNeg (σ.1 v0 11))) = 24
              · refine wa_tabIn (off := 363) (tgt := 372) (by rw [c_30]; decide) (by rw [c_30]; decide) (by rw [c_30]; rfl) (by decide) E d_X12_tellOne_9 ?_
                exact b_X12_tellOne_372 E hty v0 k_v0 σ h
              by_cases c_31 : (σ.1 (kf_rf v0 5) (Int32.toNatClampNeg (σ.1 v0 11))) = 25
              · refine wa_tabIn (off := 363) (tgt := 372) (by rw [c_31]; decide) (by rw [c_31]; decide) (by rw [c_31]; rfl) (by decide) E d_X12_tellOne_9 ?_
                exact b_X12_tellOne_372 E hty v0 k_v0 σ h
              refine wa_tabOut (tgt := 372) (kf_out [20, 21, 22, 26, 27, 28, 23, 24, 25] (by decide +kernel) (List.forall_mem_cons.mpr ⟨c_2, List.forall_mem_cons.mpr ⟨c_7, List.forall_mem_cons.mpr ⟨c_12, List.forall_mem_cons.mpr ⟨c_17, List.forall_mem_cons.mpr ⟨c_21, List.forall_mem_cons.mpr ⟨c_25, List.forall_mem_cons.mpr ⟨c_29, List.forall_mem_cons.mpr ⟨c_30, List.forall_mem_cons.mpr ⟨c_31, fun _ h => absurd h List.not_mem_nil⟩⟩⟩⟩⟩⟩⟩⟩⟩)) (by decide) E d_X12_tellOne_9 ?_
              exact b_X12_tellOne_372 E hty v0 k_v0 σ h
