/-! X1_become -/
theorem d_X1_become_0 : kf_dq cX1_become 0 1 1 (.aload_n 1) := ⟨by decide +kernel, rfl⟩
theorem d_X1_become_1 : kf_dq cX1_become 1 4 3 (.getfield 9) := ⟨by decide +kernel, rfl⟩
theorem d_X1_become_4 : kf_dq cX1_become 4 5 1 (.iconst 0) := ⟨by decide +kernel, rfl⟩
theorem d_X1_become_5 : kf_dq cX1_become 5 6 1 (.aload_n 0) := ⟨by decide +kernel, rfl⟩
theorem d_X1_become_6 : kf_dq cX1_become 6 9 3 (.getfield 9) := ⟨by decide +kernel, rfl⟩
theorem d_X1_become_9 : kf_dq cX1_become 9 10 1 (.iconst 0) := ⟨by decide +kernel, rfl⟩
theorem d_X1_become_10 : kf_dq cX1_become 10 11 1 (.iconst 4) := ⟨by decide +kernel, rfl⟩
theorem d_X1_become_11 : kf_dq cX1_become 11 14 3 (.invokestatic 32) := ⟨by decide +kernel, rfl⟩
theorem d_X1_become_14 : kf_dq cX1_become 14 15 1 (.aload_n 0) := ⟨by decide +kernel, rfl⟩
theorem d_X1_become_15 : kf_dq cX1_become 15 16 1 (.aload_n 1) := ⟨by decide +kernel, rfl⟩
theorem d_X1_become_16 : kf_dq cX1_become 16 19 3 (.getfield 15) := ⟨by decide +kernel, rfl⟩
theorem d_X1_become_19 : kf_dq cX1_become 19 22 3 (.putfield 15) := ⟨by decide +kernel, rfl⟩
theorem d_X1_become_22 : kf_dq cX1_become 22 23 1 (.aload_n 0) := ⟨by decide +kernel, rfl⟩
theorem d_X1_become_23 : kf_dq cX1_become 23 24 1 (.aload_n 1) := ⟨by decide +kernel, rfl⟩
theorem d_X1_become_24 : kf_dq cX1_become 24 27 3 (.getfield 19) := ⟨by decide +kernel, rfl⟩
theorem d_X1_become_27 : kf_dq cX1_become 27 30 3 (.putfield 19) := ⟨by decide +kernel, rfl⟩
theorem d_X1_become_30 : kf_dq cX1_become 30 31 1 (.aload_n 0) := ⟨by decide +kernel, rfl⟩
theorem d_X1_become_31 : kf_dq cX1_become 31 32 1 (.aload_n 1) := ⟨by decide +kernel, rfl⟩
theorem d_X1_become_32 : kf_dq cX1_become 32 35 3 (.getfield 22) := ⟨by decide +kernel, rfl⟩
theorem d_X1_become_35 : kf_dq cX1_become 35 38 3 (.putfield 22) := ⟨by decide +kernel, rfl⟩
theorem d_X1_become_38 : kf_dq cX1_become 38 39 1 (.aload_n 0) := ⟨by decide +kernel, rfl⟩
theorem d_X1_become_39 : kf_dq cX1_become 39 40 1 (.aload_n 1) := ⟨by decide +kernel, rfl⟩
theorem d_X1_become_40 : kf_dq cX1_become 40 43 3 (.getfield 25) := ⟨by decide +kernel, rfl⟩
theorem d_X1_become_43 : kf_dq cX1_become 43 46 3 (.putfield 25) := ⟨by decide +kernel, rfl⟩
theorem d_X1_become_46 : kf_dq cX1_become 46 47 1 (.aload_n 0) := ⟨by decide +kernel, rfl⟩
theorem d_X1_become_47 : kf_dq cX1_become 47 48 1 (.aload_n 1) := ⟨by decide +kernel, rfl⟩
theorem d_X1_become_48 : kf_dq cX1_become 48 51 3 (.getfield 28) := ⟨by decide +kernel, rfl⟩
theorem d_X1_become_51 : kf_dq cX1_become 51 54 3 (.putfield 28) := ⟨by decide +kernel, rfl⟩
theorem d_X1_become_54 : kf_dq cX1_become 54 55 1 (.return_) := ⟨by decide +kernel, rfl⟩
def f_X1_become (v0 : Nat) (v1 : Nat) (σ : kf_St) : Option kf_St :=
  if kf_cok 0 0 4 (kf_ln (kf_rf v1 0)) (kf_ln (kf_rf v0 0)) = true then
  kf_lt (kf_ci σ (kf_rf v1 0) (kf_rf v0 0) (Int32.toNatClampNeg 0) (Int32.toNatClampNeg 0) (Int32.toNatClampNeg 4)) fun σ_2 =>
  kf_lt (kf_wi σ_2 v0 1 (σ_2.1 v1 1)) fun σ_3 =>
  kf_lt (kf_wi σ_3 v0 2 (σ_3.1 v1 2)) fun σ_4 =>
  kf_lt (kf_wi σ_4 v0 3 (σ_4.1 v1 3)) fun σ_5 =>
  kf_lt (kf_wi σ_5 v0 4 (σ_5.1 v1 4)) fun σ_6 =>
  if kf_zb (σ_6.1 v1 5) = true then
  kf_lt (kf_wi σ_6 v0 5 (σ_6.1 v1 5)) fun σ_7 =>
  some σ_7
  else none
  else none
set_option maxRecDepth 100000 in
set_option maxHeartbeats 4000000 in
theorem c_X1_become {G : kf_G} (hty : kf_wt G) (v0 : Nat) (v1 : Nat) (k_v0 : kf_kd G v0 = 2) (k_v1 : kf_kd G v1 = 2) (σ : kf_St) {q : kf_St} (h : f_X1_become v0 v1 σ = some q) : kf_Ct (1) yX1_become cX1_become 2 none G [.ref (kf_ad G v0), .ref (kf_ad G v1)] σ none q := by
  refine kf_Ct.of hty.1 (lv := [(0, .ref (kf_ad G v0)), (1, .ref (kf_ad G v1))]) (by decide +kernel) rfl (Nat.le_of_ble_eq_true rfl) (fun X E => ?_)
  unfold f_X1_become at h
  refine wa_aload_n 1 rfl E d_X1_become_0 ?_
  refine wa_getR fl_X1_9 k_v1 rfl E d_X1_become_1 ?_
  refine wa_iconst 0 ic_0 E d_X1_become_4 ?_
  refine wa_aload_n 0 rfl E d_X1_become_5 ?_
  refine wa_getR fl_X1_9 k_v0 rfl E d_X1_become_6 ?_
  refine wa_iconst 0 ic_0 E d_X1_become_9 ?_
  refine wa_iconst 4 ic_4 E d_X1_become_10 ?_
  obtain ⟨g_1, h⟩ := kf_gd h
  obtain ⟨σ_2, eσ_2, h⟩ := kf_lte h
  refine wa_copyi cw_X1_32 (kf_wtf hty 0 49 k_v1 (by decide) rfl) (kf_wtf hty 0 49 k_v0 (by decide) rfl) g_1 (Nat.le_of_ble_eq_true rfl) (Nat.le_of_ble_eq_true rfl) E d_X1_become_11 eσ_2 ?_
  refine wa_aload_n 0 rfl E d_X1_become_14 ?_
  refine wa_aload_n 1 rfl E d_X1_become_15 ?_
  refine wa_getI fl_X1_15 k_v1 rfl E d_X1_become_16 ?_
  obtain ⟨σ_3, eσ_3, h⟩ := kf_lte h
  refine wa_putI fl_X1_15 fp_1_1 k_v0 rfl (by decide) rfl rfl E d_X1_become_19 eσ_3 ?_
  refine wa_aload_n 0 rfl E d_X1_become_22 ?_
  refine wa_aload_n 1 rfl E d_X1_become_23 ?_
  refine wa_getI fl_X1_19 k_v1 rfl E d_X1_become_24 ?_
  obtain ⟨σ_4, eσ_4, h⟩ := kf_lte h
  refine wa_putI fl_X1_19 fp_1_2 k_v0 rfl (by decide) rfl rfl E d_X1_become_27 eσ_4 ?_
  refine wa_aload_n 0 rfl E d_X1_become_30 ?_
  refine wa_aload_n 1 rfl E d_X1_become_31 ?_
  refine wa_getI fl_X1_22 k_v1 rfl E d_X1_become_32 ?_
  obtain ⟨σ_5, eσ_5, h⟩ := kf_lte h
  refine wa_putI fl_X1_22 fp_1_3 k_v0 rfl (by decide) rfl rfl E d_X1_become_35 eσ_5 ?_
  refine wa_aload_n 0 rfl E d_X1_become_38 ?_
  refine wa_aload_n 1 rfl E d_X1_become_39 ?_
  refine wa_getI fl_X1_25 k_v1 rfl E d_X1_become_40 ?_
  obtain ⟨σ_6, eσ_6, h⟩ := kf_lte h
  refine wa_putI fl_X1_25 fp_1_4 k_v0 rfl (by decide) rfl rfl E d_X1_become_43 eσ_6 ?_
  refine wa_aload_n 0 rfl E d_X1_become_46 ?_
  refine wa_aload_n 1 rfl E d_X1_become_47 ?_
  refine wa_getZ fl_X1_28 k_v1 rfl E d_X1_become_48 ?_
  obtain ⟨g_8, h⟩ := kf_gd h
  obtain ⟨σ_7, eσ_7, h⟩ := kf_lte h
  refine wa_putI fl_X1_28 fp_1_5 k_v0 rfl (by decide) (kf_zbn g_8) (kf_zbf g_8) E d_X1_become_51 eσ_7 ?_
  cases h
  exact wa_vret E d_X1_become_54
/-! X10_isDue -/
theorem d_X10_isDue_0 : kf_dq cX10_isDue 0 1 1 (.iload_n 2) := ⟨by decide +kernel, rfl⟩
theorem d_X10_isDue_1 : kf_dq cX10_isDue 1 2 1 (.aload_n 0) := ⟨by decide +kernel, rfl⟩
theorem d_X10_isDue_2 : kf_dq cX10_isDue 2 5 3 (.getfield 34) := ⟨by decide +kernel, rfl⟩
theorem d_X10_isDue_5 : kf_dq cX10_isDue 5 6 1 (.iload_n 1) := ⟨by decide +kernel, rfl⟩
theorem d_X10_isDue_6 : kf_dq cX10_isDue 6 7 1 (.iaload) := ⟨by decide +kernel, rfl⟩
theorem d_X10_isDue_7 : kf_dq cX10_isDue 7 8 1 (.isub) := ⟨by decide +kernel, rfl⟩
theorem d_X10_isDue_8 : kf_dq cX10_isDue 8 9 1 (.istore_n 3) := ⟨by decide +kernel, rfl⟩
theorem d_X10_isDue_9 : kf_dq cX10_isDue 9 10 1 (.aload_n 0) := ⟨by decide +kernel, rfl⟩
theorem d_X10_isDue_10 : kf_dq cX10_isDue 10 13 3 (.getfield 31) := ⟨by decide +kernel, rfl⟩
theorem d_X10_isDue_13 : kf_dq cX10_isDue 13 14 1 (.iload_n 1) := ⟨by decide +kernel, rfl⟩
theorem d_X10_isDue_14 : kf_dq cX10_isDue 14 15 1 (.iaload) := ⟨by decide +kernel, rfl⟩
theorem d_X10_isDue_15 : kf_dj cX10_isDue 15 18 37 (.ifCond .le) := ⟨22, by decide +kernel, rfl, by decide⟩
theorem d_X10_isDue_18 : kf_dq cX10_isDue 18 19 1 (.iload_n 3) := ⟨by decide +kernel, rfl⟩
theorem d_X10_isDue_19 : kf_dj cX10_isDue 19 22 37 (.ifCond .lt) := ⟨18, by decide +kernel, rfl, by decide⟩
theorem d_X10_isDue_22 : kf_dq cX10_isDue 22 23 1 (.iload_n 3) := ⟨by decide +kernel, rfl⟩
theorem d_X10_isDue_23 : kf_dq cX10_isDue 23 24 1 (.aload_n 0) := ⟨by decide +kernel, rfl⟩
theorem d_X10_isDue_24 : kf_dq cX10_isDue 24 27 3 (.getfield 31) := ⟨by decide +kernel, rfl⟩
theorem d_X10_isDue_27 : kf_dq cX10_isDue 27 28 1 (.iload_n 1) := ⟨by decide +kernel, rfl⟩
theorem d_X10_isDue_28 : kf_dq cX10_isDue 28 29 1 (.iaload) := ⟨by decide +kernel, rfl⟩
theorem d_X10_isDue_29 : kf_dq cX10_isDue 29 30 1 (.irem) := ⟨by decide +kernel, rfl⟩
theorem d_X10_isDue_30 : kf_dj cX10_isDue 30 33 37 (.ifCond .ne) := ⟨7, by decide +kernel, rfl, by decide⟩
theorem d_X10_isDue_33 : kf_dq cX10_isDue 33 34 1 (.iconst 1) := ⟨by decide +kernel, rfl⟩
theorem d_X10_isDue_34 : kf_dj cX10_isDue 34 37 38 .goto := ⟨4, by decide +kernel, rfl, by decide⟩
theorem d_X10_isDue_37 : kf_dq cX10_isDue 37 38 1 (.iconst 0) := ⟨by decide +kernel, rfl⟩
theorem d_X10_isDue_38 : kf_dq cX10_isDue 38 39 1 (.ireturn) := ⟨by decide +kernel, rfl⟩
def f_X10_isDue (v0 : Nat) (v1 : Int32) (v2 : Int32) (σ : kf_St) : Option (Int32 × kf_St) :=
  if kf_ix v1 (kf_ln (kf_rf v0 13)) = true then
  kf_lt ((v2 - (σ.1 (kf_rf v0 13) (Int32.toNatClampNeg v1)))) fun v3_2 =>
  if kf_ix v1 (kf_ln (kf_rf v0 12)) = true then
  if (σ.1 (kf_rf v0 12) (Int32.toNatClampNeg v1)) ≤ 0 then
    some (0, σ)
  else
    if v3_2 < 0 then
      some (0, σ)
    else
      if kf_ix v1 (kf_ln (kf_rf v0 12)) = true then
      if (σ.1 (kf_rf v0 12) (Int32.toNatClampNeg v1)) = 0 then none else
      if (v3_2 - v3_2 / (σ.1 (kf_rf v0 12) (Int32.toNatClampNeg v1)) * (σ.1 (kf_rf v0 12) (Int32.toNatClampNeg v1))) = 0 then
        some (1, σ)
      else
        some (0, σ)
      else none
  else none
  else none
set_option maxRecDepth 100000 in
set_option maxHeartbeats 4000000 in
theorem c_X10_isDue {G : kf_G} (hty : kf_wt G) (v0 : Nat) (v1 : Int32) (v2 : Int32) (k_v0 : kf_kd G v0 = 11) (σ : kf_St) {q : (Int32 × kf_St)} (h : f_X10_isDue v0 v1 v2 σ = some q) : kf_Ct (1) yX10_isDue cX10_isDue 4 (some .boolean) G [.ref (kf_ad G v0), .int v1, .int v2] σ (some (.int q.1)) q.2 := by
  refine kf_Ct.of hty.1 (lv := [(0, .ref (kf_ad G v0)), (1, .int v1), (2, .int v2)]) (by decide +kernel) rfl (Nat.le_of_ble_eq_true rfl) (fun X E => ?_)
  unfold f_X10_isDue at h
  refine wa_iload_n 2 rfl E d_X10_isDue_0 ?_
  refine wa_aload_n 0 rfl E d_X10_isDue_1 ?_
  refine wa_getR fl_X10_34 k_v0 rfl E d_X10_isDue_2 ?_
  refine wa_iload_n 1 rfl E d_X10_isDue_5 ?_
  obtain ⟨g_1, h⟩ := kf_gd h
  refine wa_iald (kf_wtf hty 13 49 k_v0 (by decide) rfl) g_1 E d_X10_isDue_6 ?_
  refine wa_isub E d_X10_isDue_7 ?_
  obtain ⟨v3_2, ev3_2, h⟩ := kf_lte h
  refine wa_topi ev3_2 ?_
  refine wa_istore_n (lv' := [(3, .int v3_2), (0, .ref (kf_ad G v0)), (1, .int v1), (2, .int v2)]) rfl (by decide) rfl E d_X10_isDue_8 ?_
  refine wa_aload_n 1 rfl E d_X10_isDue_9 ?_
  refine wa_getR fl_X10_31 k_v0 rfl E d_X10_isDue_10 ?_
  refine wa_iload_n 2 rfl E d_X10_isDue_13 ?_
  obtain ⟨g_3, h⟩ := kf_gd h
  refine wa_iald (kf_wtf hty 12 49 k_v0 (by decide) rfl) g_3 E d_X10_isDue_14 ?_
  refine wa_if_le E d_X10_isDue_15 (fun c_4 => ?_) (fun c_4 => ?_)
  · replace h := kf_ift c_4 h
    refine wa_iconst 0 ic_0 E d_X10_isDue_37 ?_
    cases h
    exact wa_zret kf_z0 E d_X10_isDue_38
  · replace h := kf_iff c_4 h
    refine wa_iload_n 0 rfl E d_X10_isDue_18 ?_
    refine wa_if_lt E d_X10_isDue_19 (fun c_5 => ?_) (fun c_5 => ?_)
    · replace h := kf_ift c_5 h
      refine wa_iconst 0 ic_0 E d_X10_isDue_37 ?_
      cases h
      exact wa_zret kf_z0 E d_X10_isDue_38
    · replace h := kf_iff c_5 h
      refine wa_iload_n 0 rfl E d_X10_isDue_22 ?_
      refine wa_aload_n 1 rfl E d_X10_isDue_23 ?_
      refine wa_getR fl_X10_31 k_v0 rfl E d_X10_isDue_24 ?_
      refine wa_iload_n 2 rfl E d_X10_isDue_27 ?_
      obtain ⟨g_6, h⟩ := kf_gd h
      refine wa_iald (kf_wtf hty 12 49 k_v0 (by decide) rfl) g_6 E d_X10_isDue_28 ?_
      obtain ⟨g_7, h⟩ := kf_gn h
      refine wa_irem g_7 E d_X10_isDue_29 ?_
      refine wa_if_ne E d_X10_isDue_30 (fun c_8 => ?_) (fun c_8 => ?_)
      · replace h := kf_iff c_8 h
        refine wa_iconst 0 ic_0 E d_X10_isDue_37 ?_
        cases h
        exact wa_zret kf_z0 E d_X10_isDue_38
      · replace h := kf_ift c_8 h
        refine wa_iconst 1 ic_1 E d_X10_isDue_33 ?_
        refine wa_goto E d_X10_isDue_34 ?_
        cases h
        exact wa_zret kf_z1 E d_X10_isDue_38
/-! X10_comes -/
theorem d_X10_comes_0 : kf_dq cX10_comes 0 1 1 (.iload_n 3) := ⟨by decide +kernel, rfl⟩
theorem d_X10_comes_1 : kf_dq cX10_comes 1 2 1 (.iload_n 1) := ⟨by decide +kernel, rfl⟩
theorem d_X10_comes_2 : kf_dq cX10_comes 2 3 1 (.ishr) := ⟨by decide +kernel, rfl⟩
theorem d_X10_comes_3 : kf_dq cX10_comes 3 4 1 (.iconst 1) := ⟨by decide +kernel, rfl⟩
theorem d_X10_comes_4 : kf_dq cX10_comes 4 5 1 (.iand) := ⟨by decide +kernel, rfl⟩
theorem d_X10_comes_5 : kf_dq cX10_comes 5 6 1 (.iconst 1) := ⟨by decide +kernel, rfl⟩
theorem d_X10_comes_6 : kf_dj cX10_comes 6 9 22 (.if_icmp .ne) := ⟨16, by decide +kernel, rfl, by decide⟩
theorem d_X10_comes_9 : kf_dq cX10_comes 9 10 1 (.aload_n 0) := ⟨by decide +kernel, rfl⟩
theorem d_X10_comes_10 : kf_dq cX10_comes 10 11 1 (.iload_n 1) := ⟨by decide +kernel, rfl⟩
theorem d_X10_comes_11 : kf_dq cX10_comes 11 12 1 (.iload_n 2) := ⟨by decide +kernel, rfl⟩
theorem d_X10_comes_12 : kf_dq cX10_comes 12 15 3 (.invokevirtual 98) := ⟨by decide +kernel, rfl⟩
theorem d_X10_comes_15 : kf_dj cX10_comes 15 18 22 (.ifCond .eq) := ⟨7, by decide +kernel, rfl, by decide⟩
theorem d_X10_comes_18 : kf_dq cX10_comes 18 19 1 (.iconst 1) := ⟨by decide +kernel, rfl⟩
theorem d_X10_comes_19 : kf_dj cX10_comes 19 22 23 .goto := ⟨4, by decide +kernel, rfl, by decide⟩
theorem d_X10_comes_22 : kf_dq cX10_comes 22 23 1 (.iconst 0) := ⟨by decide +kernel, rfl⟩
theorem d_X10_comes_23 : kf_dq cX10_comes 23 24 1 (.ireturn) := ⟨by decide +kernel, rfl⟩
def f_X10_comes (v0 : Nat) (v1 : Int32) (v2 : Int32) (v3 : Int32) (σ : kf_St) : Option (Int32 × kf_St) :=
  if ((v3 >>> (v1 &&& 31)) &&& 1) = 1 then
    (f_X10_isDue v0 v1 v2 σ).bind fun q_2 =>
    if q_2.1 = 0 then
      some (0, q_2.2)
    else
      some (1, q_2.2)
  else
    some (0, σ)
set_option maxRecDepth 100000 in
set_option maxHeartbeats 4000000 in
theorem c_X10_comes {G : kf_G} (hty : kf_wt G) (v0 : Nat) (v1 : Int32) (v2 : Int32) (v3 : Int32) (k_v0 : kf_kd G v0 = 11) (σ : kf_St) {q : (Int32 × kf_St)} (h : f_X10_comes v0 v1 v2 v3 σ = some q) : kf_Ct (2) yX10_comes cX10_comes 4 (some .boolean) G [.ref (kf_ad G v0), .int v1, .int v2, .int v3] σ (some (.int q.1)) q.2 := by
  refine kf_Ct.of hty.1 (lv := [(0, .ref (kf_ad G v0)), (1, .int v1), (2, .int v2), (3, .int v3)]) (by decide +kernel) rfl (Nat.le_of_ble_eq_true rfl) (fun X E => ?_)
  unfold f_X10_comes at h
  refine wa_iload_n 3 rfl E d_X10_comes_0 ?_
  refine wa_iload_n 1 rfl E d_X10_comes_1 ?_
  refine wa_ishr E d_X10_comes_2 ?_
  refine wa_iconst 1 ic_1 E d_X10_comes_3 ?_
  refine wa_iand E d_X10_comes_4 ?_
  refine wa_iconst 1 ic_1 E d_X10_comes_5 ?_
  refine wa_icmp_ne E d_X10_comes_6 (fun c_1 => ?_) (fun c_1 => ?_)
  · replace h := kf_iff c_1 h
    refine wa_iconst 0 ic_0 E d_X10_comes_22 ?_
    cases h
    exact wa_zret kf_z0 E d_X10_comes_23
  · replace h := kf_ift c_1 h
    refine wa_aload_n 0 rfl E d_X10_comes_9 ?_
    refine wa_iload_n 1 rfl E d_X10_comes_10 ?_
    refine wa_iload_n 2 rfl E d_X10_comes_11 ?_
    obtain ⟨q_2, hq_2, h⟩ := kf_bd h
    refine wa_callV (st2 := [.int q_2.1]) (c_X10_isDue hty v0 v1 v2 k_v0 σ hq_2) mv_X10_isDue ml_X10_98 k_v0 rfl (Nat.le_of_ble_eq_true rfl) rfl (Nat.le_of_ble_eq_true rfl) E d_X10_comes_12 rfl ?_
    refine wa_if_eq E d_X10_comes_15 (fun c_3 => ?_) (fun c_3 => ?_)
    · replace h := kf_ift c_3 h
      refine wa_iconst 0 ic_0 E d_X10_comes_22 ?_
      cases h
      exact wa_zret kf_z0 E d_X10_comes_23
    · replace h := kf_iff c_3 h
      refine wa_iconst 1 ic_1 E d_X10_comes_18 ?_
      refine wa_goto E d_X10_comes_19 ?_
      cases h
      exact wa_zret kf_z1 E d_X10_comes_23
/-! X10_difference -/
theorem d_X10_difference_0 : kf_dq cX10_difference 0 1 1 (.iconst 0) := ⟨by decide +kernel, rfl⟩
theorem d_X10_difference_1 : kf_dq cX10_difference 1 3 2 (.istore 4) := ⟨by decide +kernel, rfl⟩
theorem d_X10_difference_3 : kf_dq cX10_difference 3 4 1 (.iconst 0) := ⟨by decide +kernel, rfl⟩
theorem d_X10_difference_4 : kf_dq cX10_difference 4 6 2 (.istore 5) := ⟨by decide +kernel, rfl⟩
theorem d_X10_difference_6 : kf_dq cX10_difference 6 8 2 (.iload 5) := ⟨by decide +kernel, rfl⟩
theorem d_X10_difference_8 : kf_dq cX10_difference 8 9 1 (.iconst 4) := ⟨by decide +kernel, rfl⟩
theorem d_X10_difference_9 : kf_dj cX10_difference 9 12 75 (.if_icmp .ge) := ⟨66, by decide +kernel, rfl, by decide⟩
theorem d_X10_difference_12 : kf_dq cX10_difference 12 13 1 (.iconst 4) := ⟨by decide +kernel, rfl⟩
theorem d_X10_difference_13 : kf_dq cX10_difference 13 14 1 (.iload_n 1) := ⟨by decide +kernel, rfl⟩
theorem d_X10_difference_14 : kf_dq cX10_difference 14 15 1 (.imul) := ⟨by decide +kernel, rfl⟩
theorem d_X10_difference_15 : kf_dq cX10_difference 15 17 2 (.iload 5) := ⟨by decide +kernel, rfl⟩
theorem d_X10_difference_17 : kf_dq cX10_difference 17 18 1 (.iadd) := ⟨by decide +kernel, rfl⟩
theorem d_X10_difference_18 : kf_dq cX10_difference 18 20 2 (.istore 6) := ⟨by decide +kernel, rfl⟩
theorem d_X10_difference_20 : kf_dq cX10_difference 20 21 1 (.iconst 4) := ⟨by decide +kernel, rfl⟩
theorem d_X10_difference_21 : kf_dq cX10_difference 21 22 1 (.iload_n 3) := ⟨by decide +kernel, rfl⟩
theorem d_X10_difference_22 : kf_dq cX10_difference 22 23 1 (.imul) := ⟨by decide +kernel, rfl⟩
theorem d_X10_difference_23 : kf_dq cX10_difference 23 25 2 (.iload 5) := ⟨by decide +kernel, rfl⟩
theorem d_X10_difference_25 : kf_dq cX10_difference 25 26 1 (.iadd) := ⟨by decide +kernel, rfl⟩
theorem d_X10_difference_26 : kf_dq cX10_difference 26 28 2 (.istore 7) := ⟨by decide +kernel, rfl⟩
theorem d_X10_difference_28 : kf_dq cX10_difference 28 30 2 (.iload 6) := ⟨by decide +kernel, rfl⟩
theorem d_X10_difference_30 : kf_dj cX10_difference 30 33 69 (.ifCond .lt) := ⟨39, by decide +kernel, rfl, by decide⟩
theorem d_X10_difference_33 : kf_dq cX10_difference 33 35 2 (.iload 6) := ⟨by decide +kernel, rfl⟩
theorem d_X10_difference_35 : kf_dq cX10_difference 35 36 1 (.aload_n 0) := ⟨by decide +kernel, rfl⟩
theorem d_X10_difference_36 : kf_dq cX10_difference 36 37 1 (.arraylength) := ⟨by decide +kernel, rfl⟩
theorem d_X10_difference_37 : kf_dj cX10_difference 37 40 69 (.if_icmp .ge) := ⟨32, by decide +kernel, rfl, by decide⟩
theorem d_X10_difference_40 : kf_dq cX10_difference 40 42 2 (.iload 7) := ⟨by decide +kernel, rfl⟩
theorem d_X10_difference_42 : kf_dj cX10_difference 42 45 69 (.ifCond .lt) := ⟨27, by decide +kernel, rfl, by decide⟩
theorem d_X10_difference_45 : kf_dq cX10_difference 45 47 2 (.iload 7) := ⟨by decide +kernel, rfl⟩
theorem d_X10_difference_47 : kf_dq cX10_difference 47 48 1 (.aload_n 2) := ⟨by decide +kernel, rfl⟩
theorem d_X10_difference_48 : kf_dq cX10_difference 48 49 1 (.arraylength) := ⟨by decide +kernel, rfl⟩
theorem d_X10_difference_49 : kf_dj cX10_difference 49 52 69 (.if_icmp .ge) := ⟨20, by decide +kernel, rfl, by decide⟩
theorem d_X10_difference_52 : kf_dq cX10_difference 52 54 2 (.iload 4) := ⟨by decide +kernel, rfl⟩
theorem d_X10_difference_54 : kf_dq cX10_difference 54 55 1 (.aload_n 0) := ⟨by decide +kernel, rfl⟩
theorem d_X10_difference_55 : kf_dq cX10_difference 55 57 2 (.iload 6) := ⟨by decide +kernel, rfl⟩
theorem d_X10_difference_57 : kf_dq cX10_difference 57 58 1 (.iaload) := ⟨by decide +kernel, rfl⟩
theorem d_X10_difference_58 : kf_dq cX10_difference 58 59 1 (.aload_n 2) := ⟨by decide +kernel, rfl⟩
theorem d_X10_difference_59 : kf_dq cX10_difference 59 61 2 (.iload 7) := ⟨by decide +kernel, rfl⟩
theorem d_X10_difference_61 : kf_dq cX10_difference 61 62 1 (.iaload) := ⟨by decide +kernel, rfl⟩
theorem d_X10_difference_62 : kf_dq cX10_difference 62 63 1 (.isub) := ⟨by decide +kernel, rfl⟩
theorem d_X10_difference_63 : kf_dq cX10_difference 63 66 3 (.invokestatic 111) := ⟨by decide +kernel, rfl⟩
theorem d_X10_difference_66 : kf_dq cX10_difference 66 67 1 (.iadd) := ⟨by decide +kernel, rfl⟩
theorem d_X10_difference_67 : kf_dq cX10_difference 67 69 2 (.istore 4) := ⟨by decide +kernel, rfl⟩
theorem d_X10_difference_69 : kf_dq cX10_difference 69 72 3 (.iinc 5 1) := ⟨by decide +kernel, rfl⟩
theorem d_X10_difference_72 : kf_dj cX10_difference 72 75 6 .goto := ⟨(-66), by decide +kernel, rfl, by decide⟩
theorem d_X10_difference_75 : kf_dq cX10_difference 75 77 2 (.iload 4) := ⟨by decide +kernel, rfl⟩
theorem d_X10_difference_77 : kf_dq cX10_difference 77 78 1 (.ireturn) := ⟨by decide +kernel, rfl⟩
def f_X10_difference_69 (rec6 : Nat → Int32 → Nat → Int32 → Int32 → Int32 → kf_St → Option (Int32 × kf_St)) (v0 : Nat) (v1 : Int32) (v2 : Nat) (v3 : Int32) (v4 : Int32) (v5 : Int32) (σ : kf_St) : Option (Int32 × kf_St) :=
  kf_lt (v5 + 1) fun v5_1 =>
  rec6 v0 v1 v2 v3 v4 v5_1 σ
set_option maxRecDepth 100000 in
set_option maxHeartbeats 4000000 in
theorem b_X10_difference_69 {X : kf_X} {G : kf_G} {rec6 : Nat → Int32 → Nat → Int32 → Int32 → Int32 → kf_St → Option (Int32 × kf_St)} {q : (Int32 × kf_St)} (E : kf_ok X G cX10_difference RX10 8 (some .int) (1)) (hty : kf_wt G) (hrec6 : ∀ (v0 : Nat) (v1 : Int32) (v2 : Nat) (v3 : Int32) (v4 : Int32) (v5 : Int32) (k_v0 : kf_kd G v0 = 50) (k_v2 : kf_kd G v2 = 50) (σ : kf_St), rec6 v0 v1 v2 v3 v4 v5 σ = some q → kf_WA X G 8 (kf_Q X G (some (.int q.1)) q.2) 6 [(0, .ref (kf_ad G v0)), (1, .int v1), (2, .ref (kf_ad G v2)), (3, .int v3), (4, .int v4), (5, .int v5)] [] σ) (v0 : Nat) (v1 : Int32) (v2 : Nat) (v3 : Int32) (v4 : Int32) (v5 : Int32) (k_v0 : kf_kd G v0 = 50) (k_v2 : kf_kd G v2 = 50) (σ : kf_St) (h : f_X10_difference_69 rec6 v0 v1 v2 v3 v4 v5 σ = some q) : kf_WA X G 8 (kf_Q X G (some (.int q.1)) q.2) 69 [(0, .ref (kf_ad G v0)), (1, .int v1), (2, .ref (kf_ad G v2)), (3, .int v3), (4, .int v4), (5, .int v5)] [] σ := by
  unfold f_X10_difference_69 at h
  obtain ⟨v5_1, ev5_1, h⟩ := kf_lte h
  refine wa_iinc (lv' := [(5, .int v5_1), (0, .ref (kf_ad G v0)), (1, .int v1), (2, .ref (kf_ad G v2)), (3, .int v3), (4, .int v4)]) v5_1 5 rfl (kf_inc ic_1 ev5_1) (by decide) rfl E d_X10_difference_69 ?_
  refine wa_goto E d_X10_difference_72 ?_
  refine wa_sub [1, 2, 3, 4, 5, 0] rfl ?_
  exact hrec6 v0 v1 v2 v3 v4 v5_1 k_v0 k_v2 σ h
def f_X10_difference_6_s (rec6 : Nat → Int32 → Nat → Int32 → Int32 → Int32 → kf_St → Option (Int32 × kf_St)) (v0 : Nat) (v1 : Int32) (v2 : Nat) (v3 : Int32) (v4 : Int32) (v5 : Int32) (σ : kf_St) : Option (Int32 × kf_St) :=
  if 4 ≤ v5 then
    some (v4, σ)
  else
    kf_lt (((4 * v1) + v5)) fun v6_2 =>
    kf_lt (((4 * v3) + v5)) fun v7_3 =>
    if v6_2 < 0 then
      f_X10_difference_69 rec6 v0 v1 v2 v3 v4 v5 σ
    else
      if (nI (kf_ln v0)) ≤ v6_2 then
        f_X10_difference_69 rec6 v0 v1 v2 v3 v4 v5 σ
      else
        if v7_3 < 0 then
          f_X10_difference_69 rec6 v0 v1 v2 v3 v4 v5 σ
        else
          if (nI (kf_ln v2)) ≤ v7_3 then
            f_X10_difference_69 rec6 v0 v1 v2 v3 v4 v5 σ
          else
            if kf_ix v6_2 (kf_ln v0) = true then
            if kf_ix v7_3 (kf_ln v2) = true then
            kf_lt (if 0 ≤ ((σ.1 v0 (Int32.toNatClampNeg v6_2)) - (σ.1 v2 (Int32.toNatClampNeg v7_3))) then ((σ.1 v0 (Int32.toNatClampNeg v6_2)) - (σ.1 v2 (Int32.toNatClampNeg v7_3))) else 0 - ((σ.1 v0 (Int32.toNatClampNeg v6_2)) - (σ.1 v2 (Int32.toNatClampNeg v7_3)))) fun x_10 =>
            kf_lt ((v4 + x_10)) fun v4_11 =>
            f_X10_difference_69 rec6 v0 v1 v2 v3 v4_11 v5 σ
            else none
            else none
def f_X10_difference_6 : Nat → Nat → Int32 → Nat → Int32 → Int32 → Int32 → kf_St → Option (Int32 × kf_St)
  | 0, _, _, _, _, _, _, _ => none
  | n + 1, v0, v1, v2, v3, v4, v5, σ => f_X10_difference_6_s (f_X10_difference_6 n) v0 v1 v2 v3 v4 v5 σ
set_option maxRecDepth 100000 in
set_option maxHeartbeats 4000000 in
theorem b_X10_difference_6_s {X : kf_X} {G : kf_G} (rec6 : Nat → Int32 → Nat → Int32 → Int32 → Int32 → kf_St → Option (Int32 × kf_St)) {q : (Int32 × kf_St)} (E : kf_ok X G cX10_difference RX10 8 (some .int) (1)) (hty : kf_wt G) (hrec6 : ∀ (v0 : Nat) (v1 : Int32) (v2 : Nat) (v3 : Int32) (v4 : Int32) (v5 : Int32) (k_v0 : kf_kd G v0 = 50) (k_v2 : kf_kd G v2 = 50) (σ : kf_St), rec6 v0 v1 v2 v3 v4 v5 σ = some q → kf_WA X G 8 (kf_Q X G (some (.int q.1)) q.2) 6 [(0, .ref (kf_ad G v0)), (1, .int v1), (2, .ref (kf_ad G v2)), (3, .int v3), (4, .int v4), (5, .int v5)] [] σ) (v0 : Nat) (v1 : Int32) (v2 : Nat) (v3 : Int32) (v4 : Int32) (v5 : Int32) (k_v0 : kf_kd G v0 = 50) (k_v2 : kf_kd G v2 = 50) (σ : kf_St) (h : f_X10_difference_6_s rec6 v0 v1 v2 v3 v4 v5 σ = some q) : kf_WA X G 8 (kf_Q X G (some (.int q.1)) q.2) 6 [(0, .ref (kf_ad G v0)), (1, .int v1), (2, .ref (kf_ad G v2)), (3, .int v3), (4, .int v4), (5, .int v5)] [] σ := by
  unfold f_X10_difference_6_s at h
  refine wa_iload 5 rfl E d_X10_difference_6 ?_
  refine wa_iconst 4 ic_4 E d_X10_difference_8 ?_
  refine wa_icmp_ge E d_X10_difference_9 (fun c_1 => ?_) (fun c_1 => ?_)
  · replace h := kf_ift c_1 h
    refine wa_iload 4 rfl E d_X10_difference_75 ?_
    cases h
    exact wa_iret E d_X10_difference_77
  · replace h := kf_iff c_1 h
    refine wa_iconst 4 ic_4 E d_X10_difference_12 ?_
    refine wa_iload_n 1 rfl E d_X10_difference_13 ?_
    refine wa_imul E d_X10_difference_14 ?_
    refine wa_iload 5 rfl E d_X10_difference_15 ?_
    refine wa_iadd E d_X10_difference_17 ?_
    obtain ⟨v6_2, ev6_2, h⟩ := kf_lte h
    refine wa_topi ev6_2 ?_
    refine wa_istore (lv' := [(6, .int v6_2), (0, .ref (kf_ad G v0)), (1, .int v1), (2, .ref (kf_ad G v2)), (3, .int v3), (4, .int v4), (5, .int v5)]) (by decide) rfl E d_X10_difference_18 ?_
    refine wa_iconst 4 ic_4 E d_X10_difference_20 ?_
    refine wa_iload_n 4 rfl E d_X10_difference_21 ?_
    refine wa_imul E d_X10_difference_22 ?_
    refine wa_iload 6 rfl E d_X10_difference_23 ?_
    refine wa_iadd E d_X10_difference_25 ?_
    obtain ⟨v7_3, ev7_3, h⟩ := kf_lte h
    refine wa_topi ev7_3 ?_
    refine wa_istore (lv' := [(7, .int v7_3), (6, .int v6_2), (0, .ref (kf_ad G v0)), (1, .int v1), (2, .ref (kf_ad G v2)), (3, .int v3), (4, .int v4), (5, .int v5)]) (by decide) rfl E d_X10_difference_26 ?_
    refine wa_iload 1 rfl E d_X10_difference_28 ?_
    refine wa_if_lt E d_X10_difference_30 (fun c_4 => ?_) (fun c_4 => ?_)
    · replace h := kf_ift c_4 h
      refine wa_sub [2, 3, 4, 5, 6, 7] rfl ?_
      exact b_X10_difference_69 E hty hrec6 v0 v1 v2 v3 v4 v5 k_v0 k_v2 σ h
    · replace h := kf_iff c_4 h
      refine wa_iload 1 rfl E d_X10_difference_33 ?_
      refine wa_aload_n 2 rfl E d_X10_difference_35 ?_
      refine wa_alen_i k_v0 E d_X10_difference_36 ?_
      refine wa_icmp_ge E d_X10_difference_37 (fun c_5 => ?_) (fun c_5 => ?_)
      · replace h := kf_ift c_5 h
        refine wa_sub [2, 3, 4, 5, 6, 7] rfl ?_
        exact b_X10_difference_69 E hty hrec6 v0 v1 v2 v3 v4 v5 k_v0 k_v2 σ h
      · replace h := kf_iff c_5 h
        refine wa_iload 0 rfl E d_X10_difference_40 ?_
        refine wa_if_lt E d_X10_difference_42 (fun c_6 => ?_) (fun c_6 => ?_)
        · replace h := kf_ift c_6 h
          refine wa_sub [2, 3, 4, 5, 6, 7] rfl ?_
          exact b_X10_difference_69 E hty hrec6 v0 v1 v2 v3 v4 v5 k_v0 k_v2 σ h
        · replace h := kf_iff c_6 h
          refine wa_iload 0 rfl E d_X10_difference_45 ?_
          refine wa_aload_n 4 rfl E d_X10_difference_47 ?_
          refine wa_alen_i k_v2 E d_X10_difference_48 ?_
          refine wa_icmp_ge E d_X10_difference_49 (fun c_7 => ?_) (fun c_7 => ?_)
          · replace h := kf_ift c_7 h
            refine wa_sub [2, 3, 4, 5, 6, 7] rfl ?_
            exact b_X10_difference_69 E hty hrec6 v0 v1 v2 v3 v4 v5 k_v0 k_v2 σ h
          · replace h := kf_iff c_7 h
            refine wa_iload 6 rfl E d_X10_difference_52 ?_
            refine wa_aload_n 2 rfl E d_X10_difference_54 ?_
            refine wa_iload 1 rfl E d_X10_difference_55 ?_
            obtain ⟨g_8, h⟩ := kf_gd h
            refine wa_iald k_v0 g_8 E d_X10_difference_57 ?_
            refine wa_aload_n 4 rfl E d_X10_difference_58 ?_
            refine wa_iload 0 rfl E d_X10_difference_59 ?_
            obtain ⟨g_9, h⟩ := kf_gd h
            refine wa_iald k_v2 g_9 E d_X10_difference_61 ?_
            refine wa_isub E d_X10_difference_62 ?_
            refine wa_mabs ml_X10_111 ms_abs mini mc_abs (Nat.le_of_ble_eq_true rfl) (Nat.le_of_ble_eq_true rfl) E d_X10_difference_63 ?_
            obtain ⟨x_10, ex_10, h⟩ := kf_lte h
            refine wa_topi ex_10 ?_
            refine wa_iadd E d_X10_difference_66 ?_
            obtain ⟨v4_11, ev4_11, h⟩ := kf_lte h
            refine wa_topi ev4_11 ?_
            refine wa_istore (lv' := [(4, .int v4_11), (7, .int v7_3), (6, .int v6_2), (0, .ref (kf_ad G v0)), (1, .int v1), (2, .ref (kf_ad G v2)), (3, .int v3), (5, .int v5)]) (by decide) rfl E d_X10_difference_67 ?_
            refine wa_sub [3, 4, 5, 6, 0, 7] rfl ?_
            exact b_X10_difference_69 E hty hrec6 v0 v1 v2 v3 v4_11 v5 k_v0 k_v2 σ h
theorem b_X10_difference_6 {X : kf_X} {G : kf_G} {q : (Int32 × kf_St)} (E : kf_ok X G cX10_difference RX10 8 (some .int) (1)) (hty : kf_wt G) : ∀ (N : Nat) (v0 : Nat) (v1 : Int32) (v2 : Nat) (v3 : Int32) (v4 : Int32) (v5 : Int32) (k_v0 : kf_kd G v0 = 50) (k_v2 : kf_kd G v2 = 50) (σ : kf_St) (_ : f_X10_difference_6 N v0 v1 v2 v3 v4 v5 σ = some q), kf_WA X G 8 (kf_Q X G (some (.int q.1)) q.2) 6 [(0, .ref (kf_ad G v0)), (1, .int v1), (2, .ref (kf_ad G v2)), (3, .int v3), (4, .int v4), (5, .int v5)] [] σ
  | 0, _, _, _, _, _, _, _, _, _, h => by cases h
  | N + 1, v0, v1, v2, v3, v4, v5, k_v0, k_v2, σ, h => b_X10_difference_6_s _ E hty (b_X10_difference_6 E hty N) v0 v1 v2 v3 v4 v5 k_v0 k_v2 σ h
def f_X10_difference (v0 : Nat) (v1 : Int32) (v2 : Nat) (v3 : Int32) (σ : kf_St) : Option (Int32 × kf_St) :=
  f_X10_difference_6 kf_F v0 v1 v2 v3 0 0 σ
set_option maxRecDepth 100000 in
set_option maxHeartbeats 4000000 in
theorem c_X10_difference {G : kf_G} (hty : kf_wt G) (v0 : Nat) (v1 : Int32) (v2 : Nat) (v3 : Int32) (k_v0 : kf_kd G v0 = 50) (k_v2 : kf_kd G v2 = 50) (σ : kf_St) {q : (Int32 × kf_St)} (h : f_X10_difference v0 v1 v2 v3 σ = some q) : kf_Ct (1) yX10_difference cX10_difference 8 (some .int) G [.ref (kf_ad G v0), .int v1, .ref (kf_ad G v2), .int v3] σ (some (.int q.1)) q.2 := by
  refine kf_Ct.of hty.1 (lv := [(0, .ref (kf_ad G v0)), (1, .int v1), (2, .ref (kf_ad G v2)), (3, .int v3)]) (by decide +kernel) rfl (Nat.le_of_ble_eq_true rfl) (fun X E => ?_)
  unfold f_X10_difference at h
  refine wa_iconst 0 ic_0 E d_X10_difference_0 ?_
  refine wa_istore (lv' := [(4, .int 0), (0, .ref (kf_ad G v0)), (1, .int v1), (2, .ref (kf_ad G v2)), (3, .int v3)]) (by decide) rfl E d_X10_difference_1 ?_
  refine wa_iconst 0 ic_0 E d_X10_difference_3 ?_
  refine wa_istore (lv' := [(5, .int 0), (4, .int 0), (0, .ref (kf_ad G v0)), (1, .int v1), (2, .ref (kf_ad G v2)), (3, .int v3)]) (by decide) rfl E d_X10_difference_4 ?_
  refine wa_sub [2, 3, 4, 5, 1, 0] rfl ?_
  exact b_X10_difference_6 E hty kf_F v0 v1 v2 v3 0 0 k_v0 k_v2 σ h
/-! X10_unlikeTo -/
theorem d_X10_unlikeTo_0 : kf_dq cX10_unlikeTo 0 1 1 (.aload_n 1) := ⟨by decide +kernel, rfl⟩
theorem d_X10_unlikeTo_1 : kf_dq cX10_unlikeTo 1 2 1 (.iconst 0) := ⟨by decide +kernel, rfl⟩
theorem d_X10_unlikeTo_2 : kf_dq cX10_unlikeTo 2 3 1 (.aload_n 0) := ⟨by decide +kernel, rfl⟩
theorem d_X10_unlikeTo_3 : kf_dq cX10_unlikeTo 3 6 3 (.getfield 22) := ⟨by decide +kernel, rfl⟩
theorem d_X10_unlikeTo_6 : kf_dq cX10_unlikeTo 6 7 1 (.iload_n 2) := ⟨by decide +kernel, rfl⟩
theorem d_X10_unlikeTo_7 : kf_dq cX10_unlikeTo 7 10 3 (.invokestatic 117) := ⟨by decide +kernel, rfl⟩
theorem d_X10_unlikeTo_10 : kf_dq cX10_unlikeTo 10 11 1 (.ireturn) := ⟨by decide +kernel, rfl⟩
def f_X10_unlikeTo (v0 : Nat) (v1 : Nat) (v2 : Int32) (σ : kf_St) : Option (Int32 × kf_St) :=
  (f_X10_difference v1 0 (kf_rf v0 9) v2 σ).bind fun q_1 =>
  some (q_1.1, q_1.2)
set_option maxRecDepth 100000 in
set_option maxHeartbeats 4000000 in
theorem c_X10_unlikeTo {G : kf_G} (hty : kf_wt G) (v0 : Nat) (v1 : Nat) (v2 : Int32) (k_v0 : kf_kd G v0 = 11) (k_v1 : kf_kd G v1 = 50) (σ : kf_St) {q : (Int32 × kf_St)} (h : f_X10_unlikeTo v0 v1 v2 σ = some q) : kf_Ct (2) yX10_unlikeTo cX10_unlikeTo 3 (some .int) G [.ref (kf_ad G v0), .ref (kf_ad G v1), .int v2] σ (some (.int q.1)) q.2 := by
  refine kf_Ct.of hty.1 (lv := [(0, .ref (kf_ad G v0)), (1, .ref (kf_ad G v1)), (2, .int v2)]) (by decide +kernel) rfl (Nat.le_of_ble_eq_true rfl) (fun X E => ?_)
  unfold f_X10_unlikeTo at h
  refine wa_aload_n 1 rfl E d_X10_unlikeTo_0 ?_
  refine wa_iconst 0 ic_0 E d_X10_unlikeTo_1 ?_
  refine wa_aload_n 0 rfl E d_X10_unlikeTo_2 ?_
  refine wa_getR fl_X10_22 k_v0 rfl E d_X10_unlikeTo_3 ?_
  refine wa_iload_n 2 rfl E d_X10_unlikeTo_6 ?_
  obtain ⟨q_1, hq_1, h⟩ := kf_bd h
  refine wa_callS (st2 := [.int q_1.1]) (c_X10_difference hty v1 0 (kf_rf v0 9) v2 k_v1 (kf_wtf hty 9 49 k_v0 (by decide) rfl) σ hq_1) mt_X10_difference ml_X10_117 rfl (Nat.le_of_ble_eq_true rfl) rfl (Nat.le_of_ble_eq_true rfl) E d_X10_unlikeTo_7 rfl ?_
  cases h
  exact wa_iret E d_X10_unlikeTo_10
/-! X4_look -/
theorem d_X4_look_0 : kf_dq cX4_look 0 1 1 (.aload_n 0) := ⟨by decide +kernel, rfl⟩
theorem d_X4_look_1 : kf_dq cX4_look 1 4 3 (.getfield 17) := ⟨by decide +kernel, rfl⟩
theorem d_X4_look_4 : kf_dq cX4_look 4 5 1 (.iconst 2) := ⟨by decide +kernel, rfl⟩
theorem d_X4_look_5 : kf_dq cX4_look 5 6 1 (.aload_n 1) := ⟨by decide +kernel, rfl⟩
theorem d_X4_look_6 : kf_dq cX4_look 6 9 3 (.getfield 24) := ⟨by decide +kernel, rfl⟩
theorem d_X4_look_9 : kf_dq cX4_look 9 10 1 (.iastore) := ⟨by decide +kernel, rfl⟩
theorem d_X4_look_10 : kf_dq cX4_look 10 11 1 (.aload_n 0) := ⟨by decide +kernel, rfl⟩
theorem d_X4_look_11 : kf_dq cX4_look 11 14 3 (.getfield 17) := ⟨by decide +kernel, rfl⟩
theorem d_X4_look_14 : kf_dq cX4_look 14 15 1 (.iconst 3) := ⟨by decide +kernel, rfl⟩
theorem d_X4_look_15 : kf_dq cX4_look 15 16 1 (.aload_n 1) := ⟨by decide +kernel, rfl⟩
theorem d_X4_look_16 : kf_dq cX4_look 16 19 3 (.getfield 30) := ⟨by decide +kernel, rfl⟩
theorem d_X4_look_19 : kf_dq cX4_look 19 20 1 (.iastore) := ⟨by decide +kernel, rfl⟩
theorem d_X4_look_20 : kf_dq cX4_look 20 21 1 (.aload_n 0) := ⟨by decide +kernel, rfl⟩
theorem d_X4_look_21 : kf_dq cX4_look 21 24 3 (.getfield 17) := ⟨by decide +kernel, rfl⟩
theorem d_X4_look_24 : kf_dq cX4_look 24 26 2 (.bipush 8) := ⟨by decide +kernel, rfl⟩
theorem d_X4_look_26 : kf_dq cX4_look 26 27 1 (.aload_n 1) := ⟨by decide +kernel, rfl⟩
theorem d_X4_look_27 : kf_dq cX4_look 27 30 3 (.getfield 33) := ⟨by decide +kernel, rfl⟩
theorem d_X4_look_30 : kf_dq cX4_look 30 31 1 (.iastore) := ⟨by decide +kernel, rfl⟩
theorem d_X4_look_31 : kf_dq cX4_look 31 32 1 (.aload_n 0) := ⟨by decide +kernel, rfl⟩
theorem d_X4_look_32 : kf_dq cX4_look 32 35 3 (.getfield 17) := ⟨by decide +kernel, rfl⟩
theorem d_X4_look_35 : kf_dq cX4_look 35 36 1 (.iconst 4) := ⟨by decide +kernel, rfl⟩
theorem d_X4_look_36 : kf_dq cX4_look 36 38 2 (.iload 4) := ⟨by decide +kernel, rfl⟩
theorem d_X4_look_38 : kf_dq cX4_look 38 39 1 (.iastore) := ⟨by decide +kernel, rfl⟩
theorem d_X4_look_39 : kf_dq cX4_look 39 40 1 (.aload_n 0) := ⟨by decide +kernel, rfl⟩
theorem d_X4_look_40 : kf_dq cX4_look 40 43 3 (.getfield 17) := ⟨by decide +kernel, rfl⟩
theorem d_X4_look_43 : kf_dq cX4_look 43 45 2 (.bipush 6) := ⟨by decide +kernel, rfl⟩
theorem d_X4_look_45 : kf_dq cX4_look 45 46 1 (.iload_n 3) := ⟨by decide +kernel, rfl⟩
theorem d_X4_look_46 : kf_dq cX4_look 46 47 1 (.iastore) := ⟨by decide +kernel, rfl⟩
theorem d_X4_look_47 : kf_dq cX4_look 47 48 1 (.aload_n 0) := ⟨by decide +kernel, rfl⟩
theorem d_X4_look_48 : kf_dq cX4_look 48 51 3 (.getfield 17) := ⟨by decide +kernel, rfl⟩
theorem d_X4_look_51 : kf_dq cX4_look 51 53 2 (.bipush 7) := ⟨by decide +kernel, rfl⟩
theorem d_X4_look_53 : kf_dq cX4_look 53 54 1 (.iload_n 2) := ⟨by decide +kernel, rfl⟩
theorem d_X4_look_54 : kf_dq cX4_look 54 55 1 (.iastore) := ⟨by decide +kernel, rfl⟩
theorem d_X4_look_55 : kf_dq cX4_look 55 56 1 (.return_) := ⟨by decide +kernel, rfl⟩
def f_X4_look (v0 : Nat) (v1 : Nat) (v2 : Int32) (v3 : Int32) (v4 : Int32) (σ : kf_St) : Option kf_St :=
  if kf_ix 2 (kf_ln (kf_rf v0 1)) = true then
  kf_lt (kf_wi σ (kf_rf v0 1) (Int32.toNatClampNeg 2) (σ.1 v1 1)) fun σ_2 =>
  if kf_ix 3 (kf_ln (kf_rf v0 1)) = true then
  kf_lt (kf_wi σ_2 (kf_rf v0 1) (Int32.toNatClampNeg 3) (σ_2.1 v1 2)) fun σ_4 =>
  if kf_ix 8 (kf_ln (kf_rf v0 1)) = true then
  kf_lt (kf_wi σ_4 (kf_rf v0 1) (Int32.toNatClampNeg 8) (σ_4.1 v1 3)) fun σ_6 =>
  if kf_ix 4 (kf_ln (kf_rf v0 1)) = true then
  kf_lt (kf_wi σ_6 (kf_rf v0 1) (Int32.toNatClampNeg 4) v4) fun σ_8 =>
  if kf_ix 6 (kf_ln (kf_rf v0 1)) = true then
  kf_lt (kf_wi σ_8 (kf_rf v0 1) (Int32.toNatClampNeg 6) v3) fun σ_10 =>
  if kf_ix 7 (kf_ln (kf_rf v0 1)) = true then
  kf_lt (kf_wi σ_10 (kf_rf v0 1) (Int32.toNatClampNeg 7) v2) fun σ_12 =>
  some σ_12
  else none
  else none
  else none
  else none
  else none
  else none
set_option maxRecDepth 100000 in
set_option maxHeartbeats 4000000 in
theorem c_X4_look {G : kf_G} (hty : kf_wt G) (v0 : Nat) (v1 : Nat) (v2 : Int32) (v3 : Int32) (v4 : Int32) (k_v0 : kf_kd G v0 = 5) (k_v1 : kf_kd G v1 = 2) (σ : kf_St) {q : kf_St} (h : f_X4_look v0 v1 v2 v3 v4 σ = some q) : kf_Ct (1) yX4_look cX4_look 5 none G [.ref (kf_ad G v0), .ref (kf_ad G v1), .int v2, .int v3, .int v4] σ none q := by
  refine kf_Ct.of hty.1 (lv := [(0, .ref (kf_ad G v0)), (1, .ref (kf_ad G v1)), (2, .int v2), (3, .int v3), (4, .int v4)]) (by decide +kernel) rfl (Nat.le_of_ble_eq_true rfl) (fun X E => ?_)
  unfold f_X4_look at h
  refine wa_aload_n 0 rfl E d_X4_look_0 ?_
  refine wa_getR fl_X4_17 k_v0 rfl E d_X4_look_1 ?_
  refine wa_iconst 2 ic_2 E d_X4_look_4 ?_
  refine wa_aload_n 1 rfl E d_X4_look_5 ?_
  refine wa_getI fl_X4_24 k_v1 rfl E d_X4_look_6 ?_
  obtain ⟨g_1, h⟩ := kf_gd h
  obtain ⟨σ_2, eσ_2, h⟩ := kf_lte h
  refine wa_iast (kf_wtf hty 1 49 k_v0 (by decide) rfl) g_1 E d_X4_look_9 eσ_2 ?_
  refine wa_aload_n 0 rfl E d_X4_look_10 ?_
  refine wa_getR fl_X4_17 k_v0 rfl E d_X4_look_11 ?_
  refine wa_iconst 3 ic_3 E d_X4_look_14 ?_
  refine wa_aload_n 1 rfl E d_X4_look_15 ?_
  refine wa_getI fl_X4_30 k_v1 rfl E d_X4_look_16 ?_
  obtain ⟨g_3, h⟩ := kf_gd h
  obtain ⟨σ_4, eσ_4, h⟩ := kf_lte h
  refine wa_iast (kf_wtf hty 1 49 k_v0 (by decide) rfl) g_3 E d_X4_look_19 eσ_4 ?_
  refine wa_aload_n 0 rfl E d_X4_look_20 ?_
  refine wa_getR fl_X4_17 k_v0 rfl E d_X4_look_21 ?_
  refine wa_bipush 8 bp_8 E d_X4_look_24 ?_
  refine wa_aload_n 1 rfl E d_X4_look_26 ?_
  refine wa_getI fl_X4_33 k_v1 rfl E d_X4_look_27 ?_
  obtain ⟨g_5, h⟩ := kf_gd h
  obtain ⟨σ_6, eσ_6, h⟩ := kf_lte h
  refine wa_iast (kf_wtf hty 1 49 k_v0 (by decide) rfl) g_5 E d_X4_look_30 eσ_6 ?_
  refine wa_aload_n 0 rfl E d_X4_look_31 ?_
  refine wa_getR fl_X4_17 k_v0 rfl E d_X4_look_32 ?_
  refine wa_iconst 4 ic_4 E d_X4_look_35 ?_
  refine wa_iload 4 rfl E d_X4_look_36 ?_
  obtain ⟨g_7, h⟩ := kf_gd h
  obtain ⟨σ_8, eσ_8, h⟩ := kf_lte h
  refine wa_iast (kf_wtf hty 1 49 k_v0 (by decide) rfl) g_7 E d_X4_look_38 eσ_8 ?_
  refine wa_aload_n 0 rfl E d_X4_look_39 ?_
  refine wa_getR fl_X4_17 k_v0 rfl E d_X4_look_40 ?_
  refine wa_bipush 6 bp_6 E d_X4_look_43 ?_
  refine wa_iload_n 3 rfl E d_X4_look_45 ?_
  obtain ⟨g_9, h⟩ := kf_gd h
  obtain ⟨σ_10, eσ_10, h⟩ := kf_lte h
  refine wa_iast (kf_wtf hty 1 49 k_v0 (by decide) rfl) g_9 E d_X4_look_46 eσ_10 ?_
  refine wa_aload_n 0 rfl E d_X4_look_47 ?_
  refine wa_getR fl_X4_17 k_v0 rfl E d_X4_look_48 ?_
  refine wa_bipush 7 bp_7 E d_X4_look_51 ?_
  refine wa_iload_n 2 rfl E d_X4_look_53 ?_
  obtain ⟨g_11, h⟩ := kf_gd h
  obtain ⟨σ_12, eσ_12, h⟩ := kf_lte h
  refine wa_iast (kf_wtf hty 1 49 k_v0 (by decide) rfl) g_11 E d_X4_look_54 eσ_12 ?_
  cases h
  exact wa_vret E d_X4_look_55
/-! X2_valueOf -/
theorem d_X2_valueOf_0 : kf_dq cX2_valueOf 0 1 1 (.iload_n 1) := ⟨by decide +kernel, rfl⟩
theorem d_X2_valueOf_1 : kf_dj cX2_valueOf 1 4 16 (.ifCond .lt) := ⟨15, by decide +kernel, rfl, by decide⟩
theorem d_X2_valueOf_4 : kf_dq cX2_valueOf 4 5 1 (.iload_n 1) := ⟨by decide +kernel, rfl⟩
theorem d_X2_valueOf_5 : kf_dq cX2_valueOf 5 6 1 (.aload_n 0) := ⟨by decide +kernel, rfl⟩
theorem d_X2_valueOf_6 : kf_dq cX2_valueOf 6 7 1 (.arraylength) := ⟨by decide +kernel, rfl⟩
theorem d_X2_valueOf_7 : kf_dj cX2_valueOf 7 10 16 (.if_icmp .ge) := ⟨9, by decide +kernel, rfl, by decide⟩
theorem d_X2_valueOf_10 : kf_dq cX2_valueOf 10 11 1 (.aload_n 0) := ⟨by decide +kernel, rfl⟩
theorem d_X2_valueOf_11 : kf_dq cX2_valueOf 11 12 1 (.iload_n 1) := ⟨by decide +kernel, rfl⟩
theorem d_X2_valueOf_12 : kf_dq cX2_valueOf 12 13 1 (.iaload) := ⟨by decide +kernel, rfl⟩
theorem d_X2_valueOf_13 : kf_dj cX2_valueOf 13 16 17 .goto := ⟨4, by decide +kernel, rfl, by decide⟩
theorem d_X2_valueOf_16 : kf_dq cX2_valueOf 16 17 1 (.iconst 0) := ⟨by decide +kernel, rfl⟩
theorem d_X2_valueOf_17 : kf_dq cX2_valueOf 17 18 1 (.ireturn) := ⟨by decide +kernel, rfl⟩
def f_X2_valueOf (v0 : Nat) (v1 : Int32) (σ : kf_St) : Option (Int32 × kf_St) :=
  if v1 < 0 then
    some (0, σ)
  else
    if (nI (kf_ln v0)) ≤ v1 then
      some (0, σ)
    else
      if kf_ix v1 (kf_ln v0) = true then
      some ((σ.1 v0 (Int32.toNatClampNeg v1)), σ)
      else none
set_option maxRecDepth 100000 in
set_option maxHeartbeats 4000000 in
theorem c_X2_valueOf {G : kf_G} (hty : kf_wt G) (v0 : Nat) (v1 : Int32) (k_v0 : kf_kd G v0 = 50) (σ : kf_St) {q : (Int32 × kf_St)} (h : f_X2_valueOf v0 v1 σ = some q) : kf_Ct (1) yX2_valueOf cX2_valueOf 2 (some .int) G [.ref (kf_ad G v0), .int v1] σ (some (.int q.1)) q.2 := by
  refine kf_Ct.of hty.1 (lv := [(0, .ref (kf_ad G v0)), (1, .int v1)]) (by decide +kernel) rfl (Nat.le_of_ble_eq_true rfl) (fun X E => ?_)
  unfold f_X2_valueOf at h
  refine wa_iload_n 1 rfl E d_X2_valueOf_0 ?_
  refine wa_if_lt E d_X2_valueOf_1 (fun c_1 => ?_) (fun c_1 => ?_)
  · replace h := kf_ift c_1 h
    refine wa_iconst 0 ic_0 E d_X2_valueOf_16 ?_
    cases h
    exact wa_iret E d_X2_valueOf_17
  · replace h := kf_iff c_1 h
    refine wa_iload_n 1 rfl E d_X2_valueOf_4 ?_
    refine wa_aload_n 0 rfl E d_X2_valueOf_5 ?_
    refine wa_alen_i k_v0 E d_X2_valueOf_6 ?_
    refine wa_icmp_ge E d_X2_valueOf_7 (fun c_2 => ?_) (fun c_2 => ?_)
    · replace h := kf_ift c_2 h
      refine wa_iconst 0 ic_0 E d_X2_valueOf_16 ?_
      cases h
      exact wa_iret E d_X2_valueOf_17
    · replace h := kf_iff c_2 h
      refine wa_aload_n 0 rfl E d_X2_valueOf_10 ?_
      refine wa_iload_n 1 rfl E d_X2_valueOf_11 ?_
      obtain ⟨g_3, h⟩ := kf_gd h
      refine wa_iald k_v0 g_3 E d_X2_valueOf_12 ?_
      refine wa_goto E d_X2_valueOf_13 ?_
      cases h
      exact wa_iret E d_X2_valueOf_17
/-! X2_joined -/
theorem d_X2_joined_0 : kf_dq cX2_joined 0 1 1 (.iload_n 0) := ⟨by decide +kernel, rfl⟩
theorem d_X2_joined_1 : decode cX2_joined 1 = .ok (.tableswitch 39 2 4 #[27, 31, 35], 27) := by decide +kernel
theorem d_X2_joined_28 : kf_dq cX2_joined 28 29 1 (.iload_n 1) := ⟨by decide +kernel, rfl⟩
theorem d_X2_joined_29 : kf_dq cX2_joined 29 30 1 (.iload_n 2) := ⟨by decide +kernel, rfl⟩
theorem d_X2_joined_30 : kf_dq cX2_joined 30 31 1 (.iadd) := ⟨by decide +kernel, rfl⟩
theorem d_X2_joined_31 : kf_dq cX2_joined 31 32 1 (.ireturn) := ⟨by decide +kernel, rfl⟩
theorem d_X2_joined_32 : kf_dq cX2_joined 32 33 1 (.iload_n 1) := ⟨by decide +kernel, rfl⟩
theorem d_X2_joined_33 : kf_dq cX2_joined 33 34 1 (.iload_n 2) := ⟨by decide +kernel, rfl⟩
theorem d_X2_joined_34 : kf_dq cX2_joined 34 35 1 (.isub) := ⟨by decide +kernel, rfl⟩
theorem d_X2_joined_35 : kf_dq cX2_joined 35 36 1 (.ireturn) := ⟨by decide +kernel, rfl⟩
theorem d_X2_joined_36 : kf_dq cX2_joined 36 37 1 (.iload_n 1) := ⟨by decide +kernel, rfl⟩
theorem d_X2_joined_37 : kf_dq cX2_joined 37 38 1 (.iload_n 2) := ⟨by decide +kernel, rfl⟩
theorem d_X2_joined_38 : kf_dq cX2_joined 38 39 1 (.imul) := ⟨by decide +kernel, rfl⟩
theorem d_X2_joined_39 : kf_dq cX2_joined 39 40 1 (.ireturn) := ⟨by decide +kernel, rfl⟩
theorem d_X2_joined_40 : kf_dq cX2_joined 40 41 1 (.iload_n 2) := ⟨by decide +kernel, rfl⟩
theorem d_X2_joined_41 : kf_dj cX2_joined 41 44 48 (.ifCond .ne) := ⟨7, by decide +kernel, rfl, by decide⟩
theorem d_X2_joined_44 : kf_dq cX2_joined 44 45 1 (.iconst 0) := ⟨by decide +kernel, rfl⟩
theorem d_X2_joined_45 : kf_dj cX2_joined 45 48 51 .goto := ⟨6, by decide +kernel, rfl, by decide⟩
theorem d_X2_joined_48 : kf_dq cX2_joined 48 49 1 (.iload_n 1) := ⟨by decide +kernel, rfl⟩
theorem d_X2_joined_49 : kf_dq cX2_joined 49 50 1 (.iload_n 2) := ⟨by decide +kernel, rfl⟩
theorem d_X2_joined_50 : kf_dq cX2_joined 50 51 1 (.idiv) := ⟨by decide +kernel, rfl⟩
theorem d_X2_joined_51 : kf_dq cX2_joined 51 52 1 (.ireturn) := ⟨by decide +kernel, rfl⟩
def f_X2_joined (v0 : Int32) (v1 : Int32) (v2 : Int32) (σ : kf_St) : Option (Int32 × kf_St) :=
  if v0 = 2 then
    some ((v1 + v2), σ)
  else
    if v0 = 3 then
      some ((v1 - v2), σ)
    else
      if v0 = 4 then
        some ((v1 * v2), σ)
      else
        if v2 = 0 then
          some (0, σ)
        else
          if v2 = 0 then none else
          some ((v1 / v2), σ)
set_option maxRecDepth 100000 in
set_option maxHeartbeats 4000000 in
theorem c_X2_joined {G : kf_G} (hty : kf_wt G) (v0 : Int32) (v1 : Int32) (v2 : Int32) (σ : kf_St) {q : (Int32 × kf_St)} (h : f_X2_joined v0 v1 v2 σ = some q) : kf_Ct (1) yX2_joined cX2_joined 3 (some .int) G [.int v0, .int v1, .int v2] σ (some (.int q.1)) q.2 := by
  refine kf_Ct.of hty.1 (lv := [(0, .int v0), (1, .int v1), (2, .int v2)]) (by decide +kernel) rfl (Nat.le_of_ble_eq_true rfl) (fun X E => ?_)
  unfold f_X2_joined at h
  refine wa_iload_n 0 rfl E d_X2_joined_0 ?_
  by_cases c_1 : v0 = 2
  · replace h := kf_ift c_1 h
    refine wa_tabIn (off := 27) (tgt := 28) (by rw [c_1]; decide) (by rw [c_1]; decide) (by rw [c_1]; rfl) (by decide) E d_X2_joined_1 ?_
    refine wa_iload_n 1 rfl E d_X2_joined_28 ?_
    refine wa_iload_n 2 rfl E d_X2_joined_29 ?_
    refine wa_iadd E d_X2_joined_30 ?_
    cases h
    exact wa_iret E d_X2_joined_31
  · replace h := kf_iff c_1 h
    by_cases c_2 : v0 = 3
    · replace h := kf_ift c_2 h
      refine wa_tabIn (off := 31) (tgt := 32) (by rw [c_2]; decide) (by rw [c_2]; decide) (by rw [c_2]; rfl) (by decide) E d_X2_joined_1 ?_
      refine wa_iload_n 1 rfl E d_X2_joined_32 ?_
      refine wa_iload_n 2 rfl E d_X2_joined_33 ?_
      refine wa_isub E d_X2_joined_34 ?_
      cases h
      exact wa_iret E d_X2_joined_35
    · replace h := kf_iff c_2 h
      by_cases c_3 : v0 = 4
      · replace h := kf_ift c_3 h
        refine wa_tabIn (off := 35) (tgt := 36) (by rw [c_3]; decide) (by rw [c_3]; decide) (by rw [c_3]; rfl) (by decide) E d_X2_joined_1 ?_
        refine wa_iload_n 1 rfl E d_X2_joined_36 ?_
        refine wa_iload_n 2 rfl E d_X2_joined_37 ?_
        refine wa_imul E d_X2_joined_38 ?_
        cases h
        exact wa_iret E d_X2_joined_39
      · replace h := kf_iff c_3 h
        refine wa_tabOut (tgt := 40) (kf_out [2, 3, 4] (by decide +kernel) (List.forall_mem_cons.mpr ⟨c_1, List.forall_mem_cons.mpr ⟨c_2, List.forall_mem_cons.mpr ⟨c_3, fun _ h => absurd h List.not_mem_nil⟩⟩⟩)) (by decide) E d_X2_joined_1 ?_
        refine wa_iload_n 2 rfl E d_X2_joined_40 ?_
        refine wa_if_ne E d_X2_joined_41 (fun c_4 => ?_) (fun c_4 => ?_)
        · replace h := kf_iff c_4 h
          refine wa_iload_n 1 rfl E d_X2_joined_48 ?_
          refine wa_iload_n 2 rfl E d_X2_joined_49 ?_
          obtain ⟨g_5, h⟩ := kf_gn h
          refine wa_idiv g_5 E d_X2_joined_50 ?_
          cases h
          exact wa_iret E d_X2_joined_51
        · replace h := kf_ift c_4 h
          refine wa_iconst 0 ic_0 E d_X2_joined_44 ?_
          refine wa_goto E d_X2_joined_45 ?_
          cases h
          exact wa_iret E d_X2_joined_51
/-! X2_worth -/
theorem d_X2_worth_0 : kf_dq cX2_worth 0 1 1 (.iconst 0) := ⟨by decide +kernel, rfl⟩
theorem d_X2_worth_1 : kf_dq cX2_worth 1 2 1 (.istore_n 2) := ⟨by decide +kernel, rfl⟩
theorem d_X2_worth_2 : kf_dq cX2_worth 2 3 1 (.iconst 0) := ⟨by decide +kernel, rfl⟩
theorem d_X2_worth_3 : kf_dq cX2_worth 3 4 1 (.istore_n 3) := ⟨by decide +kernel, rfl⟩
theorem d_X2_worth_4 : kf_dq cX2_worth 4 5 1 (.iconst 0) := ⟨by decide +kernel, rfl⟩
theorem d_X2_worth_5 : kf_dq cX2_worth 5 7 2 (.istore 4) := ⟨by decide +kernel, rfl⟩
theorem d_X2_worth_7 : kf_dq cX2_worth 7 9 2 (.iload 4) := ⟨by decide +kernel, rfl⟩
theorem d_X2_worth_9 : kf_dq cX2_worth 9 10 1 (.aload_n 0) := ⟨by decide +kernel, rfl⟩
theorem d_X2_worth_10 : kf_dq cX2_worth 10 13 3 (.getfield 18) := ⟨by decide +kernel, rfl⟩
theorem d_X2_worth_13 : kf_dj cX2_worth 13 16 215 (.if_icmp .ge) := ⟨202, by decide +kernel, rfl, by decide⟩
theorem d_X2_worth_16 : kf_dq cX2_worth 16 17 1 (.iload_n 3) := ⟨by decide +kernel, rfl⟩
theorem d_X2_worth_17 : kf_dq cX2_worth 17 18 1 (.aload_n 0) := ⟨by decide +kernel, rfl⟩
theorem d_X2_worth_18 : kf_dq cX2_worth 18 21 3 (.getfield 18) := ⟨by decide +kernel, rfl⟩
theorem d_X2_worth_21 : kf_dj cX2_worth 21 24 215 (.if_icmp .ge) := ⟨194, by decide +kernel, rfl, by decide⟩
theorem d_X2_worth_24 : kf_dq cX2_worth 24 25 1 (.aload_n 0) := ⟨by decide +kernel, rfl⟩
theorem d_X2_worth_25 : kf_dq cX2_worth 25 28 3 (.getfield 9) := ⟨by decide +kernel, rfl⟩
theorem d_X2_worth_28 : kf_dq cX2_worth 28 29 1 (.iload_n 3) := ⟨by decide +kernel, rfl⟩
theorem d_X2_worth_29 : kf_dq cX2_worth 29 30 1 (.iaload) := ⟨by decide +kernel, rfl⟩
theorem d_X2_worth_30 : kf_dq cX2_worth 30 32 2 (.bipush 7) := ⟨by decide +kernel, rfl⟩
theorem d_X2_worth_32 : kf_dq cX2_worth 32 33 1 (.iand) := ⟨by decide +kernel, rfl⟩
theorem d_X2_worth_33 : kf_dq cX2_worth 33 35 2 (.istore 5) := ⟨by decide +kernel, rfl⟩
theorem d_X2_worth_35 : kf_dq cX2_worth 35 36 1 (.aload_n 0) := ⟨by decide +kernel, rfl⟩
theorem d_X2_worth_36 : kf_dq cX2_worth 36 39 3 (.getfield 9) := ⟨by decide +kernel, rfl⟩
theorem d_X2_worth_39 : kf_dq cX2_worth 39 40 1 (.iload_n 3) := ⟨by decide +kernel, rfl⟩
theorem d_X2_worth_40 : kf_dq cX2_worth 40 41 1 (.iaload) := ⟨by decide +kernel, rfl⟩
theorem d_X2_worth_41 : kf_dq cX2_worth 41 42 1 (.iconst 3) := ⟨by decide +kernel, rfl⟩
theorem d_X2_worth_42 : kf_dq cX2_worth 42 43 1 (.ishr) := ⟨by decide +kernel, rfl⟩
theorem d_X2_worth_43 : kf_dq cX2_worth 43 45 2 (.istore 6) := ⟨by decide +kernel, rfl⟩
theorem d_X2_worth_45 : kf_dq cX2_worth 45 48 3 (.iinc 3 1) := ⟨by decide +kernel, rfl⟩
theorem d_X2_worth_48 : kf_dq cX2_worth 48 50 2 (.iload 5) := ⟨by decide +kernel, rfl⟩
theorem d_X2_worth_50 : kf_dq cX2_worth 50 52 2 (.bipush 7) := ⟨by decide +kernel, rfl⟩
theorem d_X2_worth_52 : kf_dj cX2_worth 52 55 72 (.if_icmp .ne) := ⟨20, by decide +kernel, rfl, by decide⟩
theorem d_X2_worth_55 : kf_dq cX2_worth 55 56 1 (.iload_n 2) := ⟨by decide +kernel, rfl⟩
theorem d_X2_worth_56 : kf_dj cX2_worth 56 59 70 (.ifCond .le) := ⟨14, by decide +kernel, rfl, by decide⟩
theorem d_X2_worth_59 : kf_dq cX2_worth 59 60 1 (.aload_n 0) := ⟨by decide +kernel, rfl⟩
theorem d_X2_worth_60 : kf_dq cX2_worth 60 63 3 (.getfield 15) := ⟨by decide +kernel, rfl⟩
theorem d_X2_worth_63 : kf_dq cX2_worth 63 64 1 (.iload_n 2) := ⟨by decide +kernel, rfl⟩
theorem d_X2_worth_64 : kf_dq cX2_worth 64 65 1 (.iconst 1) := ⟨by decide +kernel, rfl⟩
theorem d_X2_worth_65 : kf_dq cX2_worth 65 66 1 (.isub) := ⟨by decide +kernel, rfl⟩
theorem d_X2_worth_66 : kf_dq cX2_worth 66 67 1 (.iaload) := ⟨by decide +kernel, rfl⟩
theorem d_X2_worth_67 : kf_dj cX2_worth 67 70 71 .goto := ⟨4, by decide +kernel, rfl, by decide⟩
theorem d_X2_worth_70 : kf_dq cX2_worth 70 71 1 (.iconst 0) := ⟨by decide +kernel, rfl⟩
theorem d_X2_worth_71 : kf_dq cX2_worth 71 72 1 (.ireturn) := ⟨by decide +kernel, rfl⟩
theorem d_X2_worth_72 : kf_dq cX2_worth 72 74 2 (.iload 5) := ⟨by decide +kernel, rfl⟩
theorem d_X2_worth_74 : kf_dj cX2_worth 74 77 83 (.ifCond .eq) := ⟨9, by decide +kernel, rfl, by decide⟩
theorem d_X2_worth_77 : kf_dq cX2_worth 77 79 2 (.iload 5) := ⟨by decide +kernel, rfl⟩
theorem d_X2_worth_79 : kf_dq cX2_worth 79 80 1 (.iconst 1) := ⟨by decide +kernel, rfl⟩
theorem d_X2_worth_80 : kf_dj cX2_worth 80 83 122 (.if_icmp .ne) := ⟨42, by decide +kernel, rfl, by decide⟩
theorem d_X2_worth_83 : kf_dq cX2_worth 83 84 1 (.iload_n 2) := ⟨by decide +kernel, rfl⟩
theorem d_X2_worth_84 : kf_dq cX2_worth 84 85 1 (.aload_n 0) := ⟨by decide +kernel, rfl⟩
theorem d_X2_worth_85 : kf_dq cX2_worth 85 88 3 (.getfield 15) := ⟨by decide +kernel, rfl⟩
theorem d_X2_worth_88 : kf_dq cX2_worth 88 89 1 (.arraylength) := ⟨by decide +kernel, rfl⟩
theorem d_X2_worth_89 : kf_dj cX2_worth 89 92 94 (.if_icmp .lt) := ⟨5, by decide +kernel, rfl, by decide⟩
theorem d_X2_worth_92 : kf_dq cX2_worth 92 93 1 (.iconst 0) := ⟨by decide +kernel, rfl⟩
theorem d_X2_worth_93 : kf_dq cX2_worth 93 94 1 (.ireturn) := ⟨by decide +kernel, rfl⟩
theorem d_X2_worth_94 : kf_dq cX2_worth 94 95 1 (.aload_n 0) := ⟨by decide +kernel, rfl⟩
theorem d_X2_worth_95 : kf_dq cX2_worth 95 98 3 (.getfield 15) := ⟨by decide +kernel, rfl⟩
theorem d_X2_worth_98 : kf_dq cX2_worth 98 99 1 (.iload_n 2) := ⟨by decide +kernel, rfl⟩
theorem d_X2_worth_99 : kf_dq cX2_worth 99 101 2 (.iload 5) := ⟨by decide +kernel, rfl⟩
theorem d_X2_worth_101 : kf_dj cX2_worth 101 104 109 (.ifCond .ne) := ⟨8, by decide +kernel, rfl, by decide⟩
theorem d_X2_worth_104 : kf_dq cX2_worth 104 106 2 (.iload 6) := ⟨by decide +kernel, rfl⟩
theorem d_X2_worth_106 : kf_dj cX2_worth 106 109 115 .goto := ⟨9, by decide +kernel, rfl, by decide⟩
theorem d_X2_worth_109 : kf_dq cX2_worth 109 110 1 (.aload_n 1) := ⟨by decide +kernel, rfl⟩
theorem d_X2_worth_110 : kf_dq cX2_worth 110 112 2 (.iload 6) := ⟨by decide +kernel, rfl⟩
theorem d_X2_worth_112 : kf_dq cX2_worth 112 115 3 (.invokestatic 28) := ⟨by decide +kernel, rfl⟩
theorem d_X2_worth_115 : kf_dq cX2_worth 115 116 1 (.iastore) := ⟨by decide +kernel, rfl⟩
theorem d_X2_worth_116 : kf_dq cX2_worth 116 119 3 (.iinc 2 1) := ⟨by decide +kernel, rfl⟩
theorem d_X2_worth_119 : kf_dj cX2_worth 119 122 209 .goto := ⟨90, by decide +kernel, rfl, by decide⟩
theorem d_X2_worth_122 : kf_dq cX2_worth 122 123 1 (.iload_n 2) := ⟨by decide +kernel, rfl⟩
theorem d_X2_worth_123 : kf_dq cX2_worth 123 124 1 (.iconst 2) := ⟨by decide +kernel, rfl⟩
theorem d_X2_worth_124 : kf_dj cX2_worth 124 127 129 (.if_icmp .ge) := ⟨5, by decide +kernel, rfl, by decide⟩
theorem d_X2_worth_127 : kf_dq cX2_worth 127 128 1 (.iconst 0) := ⟨by decide +kernel, rfl⟩
theorem d_X2_worth_128 : kf_dq cX2_worth 128 129 1 (.ireturn) := ⟨by decide +kernel, rfl⟩
theorem d_X2_worth_129 : kf_dq cX2_worth 129 130 1 (.aload_n 0) := ⟨by decide +kernel, rfl⟩
theorem d_X2_worth_130 : kf_dq cX2_worth 130 133 3 (.getfield 15) := ⟨by decide +kernel, rfl⟩
theorem d_X2_worth_133 : kf_dq cX2_worth 133 134 1 (.iload_n 2) := ⟨by decide +kernel, rfl⟩
theorem d_X2_worth_134 : kf_dq cX2_worth 134 135 1 (.iconst 1) := ⟨by decide +kernel, rfl⟩
theorem d_X2_worth_135 : kf_dq cX2_worth 135 136 1 (.isub) := ⟨by decide +kernel, rfl⟩
theorem d_X2_worth_136 : kf_dq cX2_worth 136 137 1 (.iaload) := ⟨by decide +kernel, rfl⟩
theorem d_X2_worth_137 : kf_dq cX2_worth 137 139 2 (.istore 7) := ⟨by decide +kernel, rfl⟩
theorem d_X2_worth_139 : kf_dq cX2_worth 139 140 1 (.aload_n 0) := ⟨by decide +kernel, rfl⟩
theorem d_X2_worth_140 : kf_dq cX2_worth 140 143 3 (.getfield 15) := ⟨by decide +kernel, rfl⟩
theorem d_X2_worth_143 : kf_dq cX2_worth 143 144 1 (.iload_n 2) := ⟨by decide +kernel, rfl⟩
theorem d_X2_worth_144 : kf_dq cX2_worth 144 145 1 (.iconst 2) := ⟨by decide +kernel, rfl⟩
theorem d_X2_worth_145 : kf_dq cX2_worth 145 146 1 (.isub) := ⟨by decide +kernel, rfl⟩
theorem d_X2_worth_146 : kf_dq cX2_worth 146 147 1 (.iaload) := ⟨by decide +kernel, rfl⟩
theorem d_X2_worth_147 : kf_dq cX2_worth 147 149 2 (.istore 8) := ⟨by decide +kernel, rfl⟩
theorem d_X2_worth_149 : kf_dq cX2_worth 149 151 2 (.iload 5) := ⟨by decide +kernel, rfl⟩
theorem d_X2_worth_151 : kf_dq cX2_worth 151 152 1 (.iconst 5) := ⟨by decide +kernel, rfl⟩
theorem d_X2_worth_152 : kf_dj cX2_worth 152 155 162 (.if_icmp .ne) := ⟨10, by decide +kernel, rfl, by decide⟩
theorem d_X2_worth_155 : kf_dq cX2_worth 155 157 2 (.iload 7) := ⟨by decide +kernel, rfl⟩
theorem d_X2_worth_157 : kf_dj cX2_worth 157 160 162 (.ifCond .ne) := ⟨5, by decide +kernel, rfl, by decide⟩
theorem d_X2_worth_160 : kf_dq cX2_worth 160 161 1 (.iconst 0) := ⟨by decide +kernel, rfl⟩
theorem d_X2_worth_161 : kf_dq cX2_worth 161 162 1 (.ireturn) := ⟨by decide +kernel, rfl⟩
theorem d_X2_worth_162 : kf_dq cX2_worth 162 164 2 (.iload 5) := ⟨by decide +kernel, rfl⟩
theorem d_X2_worth_164 : kf_dq cX2_worth 164 166 2 (.bipush 6) := ⟨by decide +kernel, rfl⟩
theorem d_X2_worth_166 : kf_dj cX2_worth 166 169 189 (.if_icmp .ne) := ⟨23, by decide +kernel, rfl, by decide⟩
theorem d_X2_worth_169 : kf_dq cX2_worth 169 172 3 (.iinc 2 (-2)) := ⟨by decide +kernel, rfl⟩
theorem d_X2_worth_172 : kf_dq cX2_worth 172 174 2 (.iload 8) := ⟨by decide +kernel, rfl⟩
theorem d_X2_worth_174 : kf_dq cX2_worth 174 176 2 (.iload 7) := ⟨by decide +kernel, rfl⟩
theorem d_X2_worth_176 : kf_dj cX2_worth 176 179 183 (.if_icmp .ge) := ⟨7, by decide +kernel, rfl, by decide⟩
theorem d_X2_worth_179 : kf_dq cX2_worth 179 180 1 (.iload_n 3) := ⟨by decide +kernel, rfl⟩
theorem d_X2_worth_180 : kf_dj cX2_worth 180 183 185 .goto := ⟨5, by decide +kernel, rfl, by decide⟩
theorem d_X2_worth_183 : kf_dq cX2_worth 183 185 2 (.iload 6) := ⟨by decide +kernel, rfl⟩
theorem d_X2_worth_185 : kf_dq cX2_worth 185 186 1 (.istore_n 3) := ⟨by decide +kernel, rfl⟩
theorem d_X2_worth_186 : kf_dj cX2_worth 186 189 209 .goto := ⟨23, by decide +kernel, rfl, by decide⟩
theorem d_X2_worth_189 : kf_dq cX2_worth 189 192 3 (.iinc 2 (-1)) := ⟨by decide +kernel, rfl⟩
theorem d_X2_worth_192 : kf_dq cX2_worth 192 193 1 (.aload_n 0) := ⟨by decide +kernel, rfl⟩
theorem d_X2_worth_193 : kf_dq cX2_worth 193 196 3 (.getfield 15) := ⟨by decide +kernel, rfl⟩
theorem d_X2_worth_196 : kf_dq cX2_worth 196 197 1 (.iload_n 2) := ⟨by decide +kernel, rfl⟩
theorem d_X2_worth_197 : kf_dq cX2_worth 197 198 1 (.iconst 1) := ⟨by decide +kernel, rfl⟩
theorem d_X2_worth_198 : kf_dq cX2_worth 198 199 1 (.isub) := ⟨by decide +kernel, rfl⟩
theorem d_X2_worth_199 : kf_dq cX2_worth 199 201 2 (.iload 5) := ⟨by decide +kernel, rfl⟩
theorem d_X2_worth_201 : kf_dq cX2_worth 201 203 2 (.iload 8) := ⟨by decide +kernel, rfl⟩
theorem d_X2_worth_203 : kf_dq cX2_worth 203 205 2 (.iload 7) := ⟨by decide +kernel, rfl⟩
theorem d_X2_worth_205 : kf_dq cX2_worth 205 208 3 (.invokestatic 32) := ⟨by decide +kernel, rfl⟩
theorem d_X2_worth_208 : kf_dq cX2_worth 208 209 1 (.iastore) := ⟨by decide +kernel, rfl⟩
theorem d_X2_worth_209 : kf_dq cX2_worth 209 212 3 (.iinc 4 1) := ⟨by decide +kernel, rfl⟩
theorem d_X2_worth_212 : kf_dj cX2_worth 212 215 7 .goto := ⟨(-205), by decide +kernel, rfl, by decide⟩
theorem d_X2_worth_215 : kf_dq cX2_worth 215 216 1 (.iconst 0) := ⟨by decide +kernel, rfl⟩
theorem d_X2_worth_216 : kf_dq cX2_worth 216 217 1 (.ireturn) := ⟨by decide +kernel, rfl⟩
def f_X2_worth_209 (rec7 : Nat → Nat → Int32 → Int32 → Int32 → kf_St → Option (Int32 × kf_St)) (v0 : Nat) (v1 : Nat) (v2 : Int32) (v3 : Int32) (v4 : Int32) (σ : kf_St) : Option (Int32 × kf_St) :=
  kf_lt (v4 + 1) fun v4_1 =>
  rec7 v0 v1 v2 v3 v4_1 σ
set_option maxRecDepth 100000 in
set_option maxHeartbeats 4000000 in
theorem b_X2_worth_209 {X : kf_X} {G : kf_G} {rec7 : Nat → Nat → Int32 → Int32 → Int32 → kf_St → Option (Int32 × kf_St)} {q : (Int32 × kf_St)} (E : kf_ok X G cX2_worth RX2 9 (some .int) (2)) (hty : kf_wt G) (hrec7 : ∀ (v0 : Nat) (v1 : Nat) (v2 : Int32) (v3 : Int32) (v4 : Int32) (k_v0 : kf_kd G v0 = 3) (k_v1 : kf_kd G v1 = 50) (σ : kf_St), rec7 v0 v1 v2 v3 v4 σ = some q → kf_WA X G 9 (kf_Q X G (some (.int q.1)) q.2) 7 [(0, .ref (kf_ad G v0)), (1, .ref (kf_ad G v1)), (2, .int v2), (3, .int v3), (4, .int v4)] [] σ) (v0 : Nat) (v1 : Nat) (v2 : Int32) (v3 : Int32) (v4 : Int32) (k_v0 : kf_kd G v0 = 3) (k_v1 : kf_kd G v1 = 50) (σ : kf_St) (h : f_X2_worth_209 rec7 v0 v1 v2 v3 v4 σ = some q) : kf_WA X G 9 (kf_Q X G (some (.int q.1)) q.2) 209 [(0, .ref (kf_ad G v0)), (1, .ref (kf_ad G v1)), (2, .int v2), (3, .int v3), (4, .int v4)] [] σ := by
  unfold f_X2_worth_209 at h
  obtain ⟨v4_1, ev4_1, h⟩ := kf_lte h
  refine wa_iinc (lv' := [(4, .int v4_1), (0, .ref (kf_ad G v0)), (1, .ref (kf_ad G v1)), (2, .int v2), (3, .int v3)]) v4_1 4 rfl (kf_inc ic_1 ev4_1) (by decide) rfl E d_X2_worth_209 ?_
  refine wa_goto E d_X2_worth_212 ?_
  refine wa_sub [1, 2, 3, 4, 0] rfl ?_
  exact hrec7 v0 v1 v2 v3 v4_1 k_v0 k_v1 σ h
def f_X2_worth_115 (rec7 : Nat → Nat → Int32 → Int32 → Int32 → kf_St → Option (Int32 × kf_St)) (v0 : Nat) (v1 : Nat) (v2 : Int32) (v3 : Int32) (v4 : Int32) (s0 : Nat) (s1 : Int32) (s2 : Int32) (σ : kf_St) : Option (Int32 × kf_St) :=
  if kf_ix s1 (kf_ln s0) = true then
  kf_lt (kf_wi σ s0 (Int32.toNatClampNeg s1) s2) fun σ_2 =>
  kf_lt (v2 + 1) fun v2_3 =>
  f_X2_worth_209 rec7 v0 v1 v2_3 v3 v4 σ_2
  else none
set_option maxRecDepth 100000 in
set_option maxHeartbeats 4000000 in
theorem b_X2_worth_115 {X : kf_X} {G : kf_G} {rec7 : Nat → Nat → Int32 → Int32 → Int32 → kf_St → Option (Int32 × kf_St)} {q : (Int32 × kf_St)} (E : kf_ok X G cX2_worth RX2 9 (some .int) (2)) (hty : kf_wt G) (hrec7 : ∀ (v0 : Nat) (v1 : Nat) (v2 : Int32) (v3 : Int32) (v4 : Int32) (k_v0 : kf_kd G v0 = 3) (k_v1 : kf_kd G v1 = 50) (σ : kf_St), rec7 v0 v1 v2 v3 v4 σ = some q → kf_WA X G 9 (kf_Q X G (some (.int q.1)) q.2) 7 [(0, .ref (kf_ad G v0)), (1, .ref (kf_ad G v1)), (2, .int v2), (3, .int v3), (4, .int v4)] [] σ) (v0 : Nat) (v1 : Nat) (v2 : Int32) (v3 : Int32) (v4 : Int32) (s0 : Nat) (s1 : Int32) (s2 : Int32) (k_v0 : kf_kd G v0 = 3) (k_v1 : kf_kd G v1 = 50) (k_s0 : kf_kd G s0 = 50) (σ : kf_St) (h : f_X2_worth_115 rec7 v0 v1 v2 v3 v4 s0 s1 s2 σ = some q) : kf_WA X G 9 (kf_Q X G (some (.int q.1)) q.2) 115 [(0, .ref (kf_ad G v0)), (1, .ref (kf_ad G v1)), (2, .int v2), (3, .int v3), (4, .int v4)] [.int s2, .int s1, .ref (kf_ad G s0)] σ := by
  unfold f_X2_worth_115 at h
  obtain ⟨g_1, h⟩ := kf_gd h
  obtain ⟨σ_2, eσ_2, h⟩ := kf_lte h
  refine wa_iast k_s0 g_1 E d_X2_worth_115 eσ_2 ?_
  obtain ⟨v2_3, ev2_3, h⟩ := kf_lte h
  refine wa_iinc (lv' := [(2, .int v2_3), (0, .ref (kf_ad G v0)), (1, .ref (kf_ad G v1)), (3, .int v3), (4, .int v4)]) v2_3 2 rfl (kf_inc ic_1 ev2_3) (by decide) rfl E d_X2_worth_116 ?_
  refine wa_goto E d_X2_worth_119 ?_
  refine wa_sub [1, 2, 0, 3, 4] rfl ?_
  exact b_X2_worth_209 E hty hrec7 v0 v1 v2_3 v3 v4 k_v0 k_v1 σ_2 h
def f_X2_worth_83 (rec7 : Nat → Nat → Int32 → Int32 → Int32 → kf_St → Option (Int32 × kf_St)) (v0 : Nat) (v1 : Nat) (v2 : Int32) (v3 : Int32) (v4 : Int32) (v5 : Int32) (v6 : Int32) (σ : kf_St) : Option (Int32 × kf_St) :=
  if v2 < (nI (kf_ln (kf_rf v0 2))) then
    if v5 = 0 then
      f_X2_worth_115 rec7 v0 v1 v2 v3 v4 (kf_rf v0 2) v2 v6 σ
    else
      (f_X2_valueOf v1 v6 σ).bind fun q_3 =>
      f_X2_worth_115 rec7 v0 v1 v2 v3 v4 (kf_rf v0 2) v2 q_3.1 q_3.2
  else
    some (0, σ)
set_option maxRecDepth 100000 in
set_option maxHeartbeats 4000000 in
theorem b_X2_worth_83 {X : kf_X} {G : kf_G} {rec7 : Nat → Nat → Int32 → Int32 → Int32 → kf_St → Option (Int32 × kf_St)} {q : (Int32 × kf_St)} (E : kf_ok X G cX2_worth RX2 9 (some .int) (2)) (hty : kf_wt G) (hrec7 : ∀ (v0 : Nat) (v1 : Nat) (v2 : Int32) (v3 : Int32) (v4 : Int32) (k_v0 : kf_kd G v0 = 3) (k_v1 : kf_kd G v1 = 50) (σ : kf_St), rec7 v0 v1 v2 v3 v4 σ = some q → kf_WA X G 9 (kf_Q X G (some (.int q.1)) q.2) 7 [(0, .ref (kf_ad G v0)), (1, .ref (kf_ad G v1)), (2, .int v2), (3, .int v3), (4, .int v4)] [] σ) (v0 : Nat) (v1 : Nat) (v2 : Int32) (v3 : Int32) (v4 : Int32) (v5 : Int32) (v6 : Int32) (k_v0 : kf_kd G v0 = 3) (k_v1 : kf_kd G v1 = 50) (σ : kf_St) (h : f_X2_worth_83 rec7 v0 v1 v2 v3 v4 v5 v6 σ = some q) : kf_WA X G 9 (kf_Q X G (some (.int q.1)) q.2) 83 [(0, .ref (kf_ad G v0)), (1, .ref (kf_ad G v1)), (2, .int v2), (3, .int v3), (4, .int v4), (5, .int v5), (6, .int v6)] [] σ := by
  unfold f_X2_worth_83 at h
  refine wa_iload_n 2 rfl E d_X2_worth_83 ?_
  refine wa_aload_n 0 rfl E d_X2_worth_84 ?_
  refine wa_getR fl_X2_15 k_v0 rfl E d_X2_worth_85 ?_
  refine wa_alen_i (kf_wtf hty 2 49 k_v0 (by decide) rfl) E d_X2_worth_88 ?_
  refine wa_icmp_lt E d_X2_worth_89 (fun c_1 => ?_) (fun c_1 => ?_)
  · replace h := kf_ift c_1 h
    refine wa_aload_n 0 rfl E d_X2_worth_94 ?_
    refine wa_getR fl_X2_15 k_v0 rfl E d_X2_worth_95 ?_
    refine wa_iload_n 2 rfl E d_X2_worth_98 ?_
    refine wa_iload 5 rfl E d_X2_worth_99 ?_
    refine wa_if_ne E d_X2_worth_101 (fun c_2 => ?_) (fun c_2 => ?_)
    · replace h := kf_iff c_2 h
      refine wa_aload_n 1 rfl E d_X2_worth_109 ?_
      refine wa_iload 6 rfl E d_X2_worth_110 ?_
      obtain ⟨q_3, hq_3, h⟩ := kf_bd h
      refine wa_callS (st2 := [.int q_3.1, .int v2, .ref (kf_ad G (kf_rf v0 2))]) (c_X2_valueOf hty v1 v6 k_v1 σ hq_3) mt_X2_valueOf ml_X2_28 rfl (Nat.le_of_ble_eq_true rfl) rfl (Nat.le_of_ble_eq_true rfl) E d_X2_worth_112 rfl ?_
      refine wa_sub [0, 1, 2, 3, 4] rfl ?_
      exact b_X2_worth_115 E hty hrec7 v0 v1 v2 v3 v4 (kf_rf v0 2) v2 q_3.1 k_v0 k_v1 (kf_wtf hty 2 49 k_v0 (by decide) rfl) q_3.2 h
    · replace h := kf_ift c_2 h
      refine wa_iload 6 rfl E d_X2_worth_104 ?_
      refine wa_goto E d_X2_worth_106 ?_
      refine wa_sub [0, 1, 2, 3, 4] rfl ?_
      exact b_X2_worth_115 E hty hrec7 v0 v1 v2 v3 v4 (kf_rf v0 2) v2 v6 k_v0 k_v1 (kf_wtf hty 2 49 k_v0 (by decide) rfl) σ h
  · replace h := kf_iff c_1 h
    refine wa_iconst 0 ic_0 E d_X2_worth_92 ?_
    cases h
    exact wa_iret E d_X2_worth_93
def f_X2_worth_185 (rec7 : Nat → Nat → Int32 → Int32 → Int32 → kf_St → Option (Int32 × kf_St)) (v0 : Nat) (v1 : Nat) (v2 : Int32) (v4 : Int32) (s0 : Int32) (σ : kf_St) : Option (Int32 × kf_St) :=
  f_X2_worth_209 rec7 v0 v1 v2 s0 v4 σ
set_option maxRecDepth 100000 in
set_option maxHeartbeats 4000000 in
theorem b_X2_worth_185 {X : kf_X} {G : kf_G} {rec7 : Nat → Nat → Int32 → Int32 → Int32 → kf_St → Option (Int32 × kf_St)} {q : (Int32 × kf_St)} (E : kf_ok X G cX2_worth RX2 9 (some .int) (2)) (hty : kf_wt G) (hrec7 : ∀ (v0 : Nat) (v1 : Nat) (v2 : Int32) (v3 : Int32) (v4 : Int32) (k_v0 : kf_kd G v0 = 3) (k_v1 : kf_kd G v1 = 50) (σ : kf_St), rec7 v0 v1 v2 v3 v4 σ = some q → kf_WA X G 9 (kf_Q X G (some (.int q.1)) q.2) 7 [(0, .ref (kf_ad G v0)), (1, .ref (kf_ad G v1)), (2, .int v2), (3, .int v3), (4, .int v4)] [] σ) (v0 : Nat) (v1 : Nat) (v2 : Int32) (v4 : Int32) (s0 : Int32) (k_v0 : kf_kd G v0 = 3) (k_v1 : kf_kd G v1 = 50) (σ : kf_St) (h : f_X2_worth_185 rec7 v0 v1 v2 v4 s0 σ = some q) : kf_WA X G 9 (kf_Q X G (some (.int q.1)) q.2) 185 [(0, .ref (kf_ad G v0)), (1, .ref (kf_ad G v1)), (2, .int v2), (4, .int v4)] [.int s0] σ := by
  unfold f_X2_worth_185 at h
  refine wa_istore_n (lv' := [(3, .int s0), (0, .ref (kf_ad G v0)), (1, .ref (kf_ad G v1)), (2, .int v2), (4, .int v4)]) rfl (by decide) rfl E d_X2_worth_185 ?_
  refine wa_goto E d_X2_worth_186 ?_
  refine wa_sub [1, 2, 3, 0, 4] rfl ?_
  exact b_X2_worth_209 E hty hrec7 v0 v1 v2 s0 v4 k_v0 k_v1 σ h
def f_X2_worth_162 (rec7 : Nat → Nat → Int32 → Int32 → Int32 → kf_St → Option (Int32 × kf_St)) (v0 : Nat) (v1 : Nat) (v2 : Int32) (v3 : Int32) (v4 : Int32) (v5 : Int32) (v6 : Int32) (v7 : Int32) (v8 : Int32) (σ : kf_St) : Option (Int32 × kf_St) :=
  if v5 = 6 then
    kf_lt (v2 + (-2)) fun v2_6 =>
    if v7 ≤ v8 then
      f_X2_worth_185 rec7 v0 v1 v2_6 v4 v6 σ
    else
      f_X2_worth_185 rec7 v0 v1 v2_6 v4 v3 σ
  else
    kf_lt (v2 + (-1)) fun v2_2 =>
    (f_X2_joined v5 v8 v7 σ).bind fun q_3 =>
    if kf_ix (v2_2 - 1) (kf_ln (kf_rf v0 2)) = true then
    kf_lt (kf_wi q_3.2 (kf_rf v0 2) (Int32.toNatClampNeg (v2_2 - 1)) q_3.1) fun σ_5 =>
    f_X2_worth_209 rec7 v0 v1 v2_2 v3 v4 σ_5
    else none
set_option maxRecDepth 100000 in
set_option maxHeartbeats 4000000 in
theorem b_X2_worth_162 {X : kf_X} {G : kf_G} {rec7 : Nat → Nat → Int32 → Int32 → Int32 → kf_St → Option (Int32 × kf_St)} {q : (Int32 × kf_St)} (E : kf_ok X G cX2_worth RX2 9 (some .int) (2)) (hty : kf_wt G) (hrec7 : ∀ (v0 : Nat) (v1 : Nat) (v2 : Int32) (v3 : Int32) (v4 : Int32) (k_v0 : kf_kd G v0 = 3) (k_v1 : kf_kd G v1 = 50) (σ : kf_St), rec7 v0 v1 v2 v3 v4 σ = some q → kf_WA X G 9 (kf_Q X G (some (.int q.1)) q.2) 7 [(0, .ref (kf_ad G v0)), (1, .ref (kf_ad G v1)), (2, .int v2), (3, .int v3), (4, .int v4)] [] σ) (v0 : Nat) (v1 : Nat) (v2 : Int32) (v3 : Int32) (v4 : Int32) (v5 : Int32) (v6 : Int32) (v7 : Int32) (v8 : Int32) (k_v0 : kf_kd G v0 = 3) (k_v1 : kf_kd G v1 = 50) (σ : kf_St) (h : f_X2_worth_162 rec7 v0 v1 v2 v3 v4 v5 v6 v7 v8 σ = some q) : kf_WA X G 9 (kf_Q X G (some (.int q.1)) q.2) 162 [(0, .ref (kf_ad G v0)), (1, .ref (kf_ad G v1)), (2, .int v2), (3, .int v3), (4, .int v4), (5, .int v5), (6, .int v6), (7, .int v7), (8, .int v8)] [] σ := by
  unfold f_X2_worth_162 at h
  refine wa_iload 5 rfl E d_X2_worth_162 ?_
  refine wa_bipush 6 bp_6 E d_X2_worth_164 ?_
  refine wa_icmp_ne E d_X2_worth_166 (fun c_1 => ?_) (fun c_1 => ?_)
  · replace h := kf_iff c_1 h
    obtain ⟨v2_2, ev2_2, h⟩ := kf_lte h
    refine wa_iinc (lv' := [(2, .int v2_2), (0, .ref (kf_ad G v0)), (1, .ref (kf_ad G v1)), (3, .int v3), (4, .int v4), (5, .int v5), (6, .int v6), (7, .int v7), (8, .int v8)]) v2_2 2 rfl (kf_inc ic_m1 ev2_2) (by decide) rfl E d_X2_worth_189 ?_
    refine wa_aload_n 1 rfl E d_X2_worth_192 ?_
    refine wa_getR fl_X2_15 k_v0 rfl E d_X2_worth_193 ?_
    refine wa_iload_n 0 rfl E d_X2_worth_196 ?_
    refine wa_iconst 1 ic_1 E d_X2_worth_197 ?_
    refine wa_isub E d_X2_worth_198 ?_
    refine wa_iload 5 rfl E d_X2_worth_199 ?_
    refine wa_iload 8 rfl E d_X2_worth_201 ?_
    refine wa_iload 7 rfl E d_X2_worth_203 ?_
    obtain ⟨q_3, hq_3, h⟩ := kf_bd h
    refine wa_callS (st2 := [.int q_3.1, .int (v2_2 - 1), .ref (kf_ad G (kf_rf v0 2))]) (c_X2_joined hty v5 v8 v7 σ hq_3) mt_X2_joined ml_X2_32 rfl (Nat.le_of_ble_eq_true rfl) rfl (Nat.le_of_ble_eq_true rfl) E d_X2_worth_205 rfl ?_
    obtain ⟨g_4, h⟩ := kf_gd h
    obtain ⟨σ_5, eσ_5, h⟩ := kf_lte h
    refine wa_iast (kf_wtf hty 2 49 k_v0 (by decide) rfl) g_4 E d_X2_worth_208 eσ_5 ?_
    refine wa_sub [1, 2, 0, 3, 4] rfl ?_
    exact b_X2_worth_209 E hty hrec7 v0 v1 v2_2 v3 v4 k_v0 k_v1 σ_5 h
  · replace h := kf_ift c_1 h
    obtain ⟨v2_6, ev2_6, h⟩ := kf_lte h
    refine wa_iinc (lv' := [(2, .int v2_6), (0, .ref (kf_ad G v0)), (1, .ref (kf_ad G v1)), (3, .int v3), (4, .int v4), (5, .int v5), (6, .int v6), (7, .int v7), (8, .int v8)]) v2_6 2 rfl (kf_inc ic_m2 ev2_6) (by decide) rfl E d_X2_worth_169 ?_
    refine wa_iload 8 rfl E d_X2_worth_172 ?_
    refine wa_iload 7 rfl E d_X2_worth_174 ?_
    refine wa_icmp_ge E d_X2_worth_176 (fun c_7 => ?_) (fun c_7 => ?_)
    · replace h := kf_ift c_7 h
      refine wa_iload 6 rfl E d_X2_worth_183 ?_
      refine wa_sub [1, 2, 0, 4] rfl ?_
      exact b_X2_worth_185 E hty hrec7 v0 v1 v2_6 v4 v6 k_v0 k_v1 σ h
    · replace h := kf_iff c_7 h
      refine wa_iload_n 3 rfl E d_X2_worth_179 ?_
      refine wa_goto E d_X2_worth_180 ?_
      refine wa_sub [1, 2, 0, 4] rfl ?_
      exact b_X2_worth_185 E hty hrec7 v0 v1 v2_6 v4 v3 k_v0 k_v1 σ h
def f_X2_worth_7_s (rec7 : Nat → Nat → Int32 → Int32 → Int32 → kf_St → Option (Int32 × kf_St)) (v0 : Nat) (v1 : Nat) (v2 : Int32) (v3 : Int32) (v4 : Int32) (σ : kf_St) : Option (Int32 × kf_St) :=
  if (σ.1 v0 0) ≤ v4 then
    some (0, σ)
  else
    if (σ.1 v0 0) ≤ v3 then
      some (0, σ)
    else
      if kf_ix v3 (kf_ln (kf_rf v0 1)) = true then
      kf_lt (((σ.1 (kf_rf v0 1) (Int32.toNatClampNeg v3)) &&& 7)) fun v5_4 =>
      if kf_ix v3 (kf_ln (kf_rf v0 1)) = true then
      kf_lt (((σ.1 (kf_rf v0 1) (Int32.toNatClampNeg v3)) >>> (3 &&& 31))) fun v6_6 =>
      kf_lt (v3 + 1) fun v3_7 =>
      if v5_4 = 7 then
        if v2 ≤ 0 then
          some (0, σ)
        else
          if kf_ix (v2 - 1) (kf_ln (kf_rf v0 2)) = true then
          some ((σ.1 (kf_rf v0 2) (Int32.toNatClampNeg (v2 - 1))), σ)
          else none
      else
        if v5_4 = 0 then
          f_X2_worth_83 rec7 v0 v1 v2 v3_7 v4 v5_4 v6_6 σ
        else
          if v5_4 = 1 then
            f_X2_worth_83 rec7 v0 v1 v2 v3_7 v4 v5_4 v6_6 σ
          else
            if 2 ≤ v2 then
              if kf_ix (v2 - 1) (kf_ln (kf_rf v0 2)) = true then
              kf_lt ((σ.1 (kf_rf v0 2) (Int32.toNatClampNeg (v2 - 1)))) fun v7_13 =>
              if kf_ix (v2 - 2) (kf_ln (kf_rf v0 2)) = true then
              kf_lt ((σ.1 (kf_rf v0 2) (Int32.toNatClampNeg (v2 - 2)))) fun v8_15 =>
              if v5_4 = 5 then
                if v7_13 = 0 then
                  some (0, σ)
                else
                  f_X2_worth_162 rec7 v0 v1 v2 v3_7 v4 v5_4 v6_6 v7_13 v8_15 σ
              else
                f_X2_worth_162 rec7 v0 v1 v2 v3_7 v4 v5_4 v6_6 v7_13 v8_15 σ
              else none
              else none
            else
              some (0, σ)
      else none
      else none
def f_X2_worth_7 : Nat → Nat → Nat → Int32 → Int32 → Int32 → kf_St → Option (Int32 × kf_St)
  | 0, _, _, _, _, _, _ => none
  | n + 1, v0, v1, v2, v3, v4, σ => f_X2_worth_7_s (f_X2_worth_7 n) v0 v1 v2 v3 v4 σ
set_option maxRecDepth 100000 in
set_option maxHeartbeats 4000000 in
theorem b_X2_worth_7_s {X : kf_X} {G : kf_G} (rec7 : Nat → Nat → Int32 → Int32 → Int32 → kf_St → Option (Int32 × kf_St)) {q : (Int32 × kf_St)} (E : kf_ok X G cX2_worth RX2 9 (some .int) (2)) (hty : kf_wt G) (hrec7 : ∀ (v0 : Nat) (v1 : Nat) (v2 : Int32) (v3 : Int32) (v4 : Int32) (k_v0 : kf_kd G v0 = 3) (k_v1 : kf_kd G v1 = 50) (σ : kf_St), rec7 v0 v1 v2 v3 v4 σ = some q → kf_WA X G 9 (kf_Q X G (some (.int q.1)) q.2) 7 [(0, .ref (kf_ad G v0)), (1, .ref (kf_ad G v1)), (2, .int v2), (3, .int v3), (4, .int v4)] [] σ) (v0 : Nat) (v1 : Nat) (v2 : Int32) (v3 : Int32) (v4 : Int32) (k_v0 : kf_kd G v0 = 3) (k_v1 : kf_kd G v1 = 50) (σ : kf_St) (h : f_X2_worth_7_s rec7 v0 v1 v2 v3 v4 σ = some q) : kf_WA X G 9 (kf_Q X G (some (.int q.1)) q.2) 7 [(0, .ref (kf_ad G v0)), (1, .ref (kf_ad G v1)), (2, .int v2), (3, .int v3), (4, .int v4)] [] σ := by
  unfold f_X2_worth_7_s at h
  refine wa_iload 4 rfl E d_X2_worth_7 ?_
  refine wa_aload_n 0 rfl E d_X2_worth_9 ?_
  refine wa_getI fl_X2_18 k_v0 rfl E d_X2_worth_10 ?_
  refine wa_icmp_ge E d_X2_worth_13 (fun c_1 => ?_) (fun c_1 => ?_)
  · replace h := kf_ift c_1 h
    refine wa_iconst 0 ic_0 E d_X2_worth_215 ?_
    cases h
    exact wa_iret E d_X2_worth_216
  · replace h := kf_iff c_1 h
    refine wa_iload_n 3 rfl E d_X2_worth_16 ?_
    refine wa_aload_n 0 rfl E d_X2_worth_17 ?_
    refine wa_getI fl_X2_18 k_v0 rfl E d_X2_worth_18 ?_
    refine wa_icmp_ge E d_X2_worth_21 (fun c_2 => ?_) (fun c_2 => ?_)
    · replace h := kf_ift c_2 h
      refine wa_iconst 0 ic_0 E d_X2_worth_215 ?_
      cases h
      exact wa_iret E d_X2_worth_216
    · replace h := kf_iff c_2 h
      refine wa_aload_n 0 rfl E d_X2_worth_24 ?_
      refine wa_getR fl_X2_9 k_v0 rfl E d_X2_worth_25 ?_
      refine wa_iload_n 3 rfl E d_X2_worth_28 ?_
      obtain ⟨g_3, h⟩ := kf_gd h
      refine wa_iald (kf_wtf hty 1 49 k_v0 (by decide) rfl) g_3 E d_X2_worth_29 ?_
      refine wa_bipush 7 bp_7 E d_X2_worth_30 ?_
      refine wa_iand E d_X2_worth_32 ?_
      obtain ⟨v5_4, ev5_4, h⟩ := kf_lte h
      refine wa_topi ev5_4 ?_
      refine wa_istore (lv' := [(5, .int v5_4), (0, .ref (kf_ad G v0)), (1, .ref (kf_ad G v1)), (2, .int v2), (3, .int v3), (4, .int v4)]) (by decide) rfl E d_X2_worth_33 ?_
      refine wa_aload_n 1 rfl E d_X2_worth_35 ?_
      refine wa_getR fl_X2_9 k_v0 rfl E d_X2_worth_36 ?_
      refine wa_iload_n 4 rfl E d_X2_worth_39 ?_
      obtain ⟨g_5, h⟩ := kf_gd h
      refine wa_iald (kf_wtf hty 1 49 k_v0 (by decide) rfl) g_5 E d_X2_worth_40 ?_
      refine wa_iconst 3 ic_3 E d_X2_worth_41 ?_
      refine wa_ishr E d_X2_worth_42 ?_
      obtain ⟨v6_6, ev6_6, h⟩ := kf_lte h
      refine wa_topi ev6_6 ?_
      refine wa_istore (lv' := [(6, .int v6_6), (5, .int v5_4), (0, .ref (kf_ad G v0)), (1, .ref (kf_ad G v1)), (2, .int v2), (3, .int v3), (4, .int v4)]) (by decide) rfl E d_X2_worth_43 ?_
      obtain ⟨v3_7, ev3_7, h⟩ := kf_lte h
      refine wa_iinc (lv' := [(3, .int v3_7), (6, .int v6_6), (5, .int v5_4), (0, .ref (kf_ad G v0)), (1, .ref (kf_ad G v1)), (2, .int v2), (4, .int v4)]) v3_7 5 rfl (kf_inc ic_1 ev3_7) (by decide) rfl E d_X2_worth_45 ?_
      refine wa_iload 2 rfl E d_X2_worth_48 ?_
      refine wa_bipush 7 bp_7 E d_X2_worth_50 ?_
      refine wa_icmp_ne E d_X2_worth_52 (fun c_8 => ?_) (fun c_8 => ?_)
      · replace h := kf_iff c_8 h
        refine wa_iload 2 rfl E d_X2_worth_72 ?_
        refine wa_if_eq E d_X2_worth_74 (fun c_9 => ?_) (fun c_9 => ?_)
        · replace h := kf_ift c_9 h
          refine wa_sub [3, 4, 5, 0, 6, 2, 1] rfl ?_
          exact b_X2_worth_83 E hty hrec7 v0 v1 v2 v3_7 v4 v5_4 v6_6 k_v0 k_v1 σ h
        · replace h := kf_iff c_9 h
          refine wa_iload 2 rfl E d_X2_worth_77 ?_
          refine wa_iconst 1 ic_1 E d_X2_worth_79 ?_
          refine wa_icmp_ne E d_X2_worth_80 (fun c_10 => ?_) (fun c_10 => ?_)
          · replace h := kf_iff c_10 h
            refine wa_iload_n 5 rfl E d_X2_worth_122 ?_
            refine wa_iconst 2 ic_2 E d_X2_worth_123 ?_
            refine wa_icmp_ge E d_X2_worth_124 (fun c_11 => ?_) (fun c_11 => ?_)
            · replace h := kf_ift c_11 h
              refine wa_aload_n 3 rfl E d_X2_worth_129 ?_
              refine wa_getR fl_X2_15 k_v0 rfl E d_X2_worth_130 ?_
              refine wa_iload_n 5 rfl E d_X2_worth_133 ?_
              refine wa_iconst 1 ic_1 E d_X2_worth_134 ?_
              refine wa_isub E d_X2_worth_135 ?_
              obtain ⟨g_12, h⟩ := kf_gd h
              refine wa_iald (kf_wtf hty 2 49 k_v0 (by decide) rfl) g_12 E d_X2_worth_136 ?_
              obtain ⟨v7_13, ev7_13, h⟩ := kf_lte h
              refine wa_topi ev7_13 ?_
              refine wa_istore (lv' := [(7, .int v7_13), (3, .int v3_7), (6, .int v6_6), (5, .int v5_4), (0, .ref (kf_ad G v0)), (1, .ref (kf_ad G v1)), (2, .int v2), (4, .int v4)]) (by decide) rfl E d_X2_worth_137 ?_
              refine wa_aload_n 4 rfl E d_X2_worth_139 ?_
              refine wa_getR fl_X2_15 k_v0 rfl E d_X2_worth_140 ?_
              refine wa_iload_n 6 rfl E d_X2_worth_143 ?_
              refine wa_iconst 2 ic_2 E d_X2_worth_144 ?_
              refine wa_isub E d_X2_worth_145 ?_
              obtain ⟨g_14, h⟩ := kf_gd h
              refine wa_iald (kf_wtf hty 2 49 k_v0 (by decide) rfl) g_14 E d_X2_worth_146 ?_
              obtain ⟨v8_15, ev8_15, h⟩ := kf_lte h
              refine wa_topi ev8_15 ?_
              refine wa_istore (lv' := [(8, .int v8_15), (7, .int v7_13), (3, .int v3_7), (6, .int v6_6), (5, .int v5_4), (0, .ref (kf_ad G v0)), (1, .ref (kf_ad G v1)), (2, .int v2), (4, .int v4)]) (by decide) rfl E d_X2_worth_147 ?_
              refine wa_iload 4 rfl E d_X2_worth_149 ?_
              refine wa_iconst 5 ic_5 E d_X2_worth_151 ?_
              refine wa_icmp_ne E d_X2_worth_152 (fun c_16 => ?_) (fun c_16 => ?_)
              · replace h := kf_iff c_16 h
                refine wa_sub [5, 6, 7, 2, 8, 4, 3, 1, 0] rfl ?_
                exact b_X2_worth_162 E hty hrec7 v0 v1 v2 v3_7 v4 v5_4 v6_6 v7_13 v8_15 k_v0 k_v1 σ h
              · replace h := kf_ift c_16 h
                refine wa_iload 1 rfl E d_X2_worth_155 ?_
                refine wa_if_ne E d_X2_worth_157 (fun c_17 => ?_) (fun c_17 => ?_)
                · replace h := kf_iff c_17 h
                  refine wa_sub [5, 6, 7, 2, 8, 4, 3, 1, 0] rfl ?_
                  exact b_X2_worth_162 E hty hrec7 v0 v1 v2 v3_7 v4 v5_4 v6_6 v7_13 v8_15 k_v0 k_v1 σ h
                · replace h := kf_ift c_17 h
                  refine wa_iconst 0 ic_0 E d_X2_worth_160 ?_
                  cases h
                  exact wa_iret E d_X2_worth_161
            · replace h := kf_iff c_11 h
              refine wa_iconst 0 ic_0 E d_X2_worth_127 ?_
              cases h
              exact wa_iret E d_X2_worth_128
          · replace h := kf_ift c_10 h
            refine wa_sub [3, 4, 5, 0, 6, 2, 1] rfl ?_
            exact b_X2_worth_83 E hty hrec7 v0 v1 v2 v3_7 v4 v5_4 v6_6 k_v0 k_v1 σ h
      · replace h := kf_ift c_8 h
        refine wa_iload_n 5 rfl E d_X2_worth_55 ?_
        refine wa_if_le E d_X2_worth_56 (fun c_18 => ?_) (fun c_18 => ?_)
        · replace h := kf_ift c_18 h
          refine wa_iconst 0 ic_0 E d_X2_worth_70 ?_
          cases h
          exact wa_iret E d_X2_worth_71
        · replace h := kf_iff c_18 h
          refine wa_aload_n 3 rfl E d_X2_worth_59 ?_
          refine wa_getR fl_X2_15 k_v0 rfl E d_X2_worth_60 ?_
          refine wa_iload_n 5 rfl E d_X2_worth_63 ?_
          refine wa_iconst 1 ic_1 E d_X2_worth_64 ?_
          refine wa_isub E d_X2_worth_65 ?_
          obtain ⟨g_19, h⟩ := kf_gd h
          refine wa_iald (kf_wtf hty 2 49 k_v0 (by decide) rfl) g_19 E d_X2_worth_66 ?_
          refine wa_goto E d_X2_worth_67 ?_
          cases h
          exact wa_iret E d_X2_worth_71
theorem b_X2_worth_7 {X : kf_X} {G : kf_G} {q : (Int32 × kf_St)} (E : kf_ok X G cX2_worth RX2 9 (some .int) (2)) (hty : kf_wt G) : ∀ (N : Nat) (v0 : Nat) (v1 : Nat) (v2 : Int32) (v3 : Int32) (v4 : Int32) (k_v0 : kf_kd G v0 = 3) (k_v1 : kf_kd G v1 = 50) (σ : kf_St) (_ : f_X2_worth_7 N v0 v1 v2 v3 v4 σ = some q), kf_WA X G 9 (kf_Q X G (some (.int q.1)) q.2) 7 [(0, .ref (kf_ad G v0)), (1, .ref (kf_ad G v1)), (2, .int v2), (3, .int v3), (4, .int v4)] [] σ
  | 0, _, _, _, _, _, _, _, _, h => by cases h
  | N + 1, v0, v1, v2, v3, v4, k_v0, k_v1, σ, h => b_X2_worth_7_s _ E hty (b_X2_worth_7 E hty N) v0 v1 v2 v3 v4 k_v0 k_v1 σ h
def f_X2_worth (v0 : Nat) (v1 : Nat) (σ : kf_St) : Option (Int32 × kf_St) :=
  f_X2_worth_7 kf_F v0 v1 0 0 0 σ
set_option maxRecDepth 100000 in
set_option maxHeartbeats 4000000 in
theorem c_X2_worth {G : kf_G} (hty : kf_wt G) (v0 : Nat) (v1 : Nat) (k_v0 : kf_kd G v0 = 3) (k_v1 : kf_kd G v1 = 50) (σ : kf_St) {q : (Int32 × kf_St)} (h : f_X2_worth v0 v1 σ = some q) : kf_Ct (2) yX2_worth cX2_worth 9 (some .int) G [.ref (kf_ad G v0), .ref (kf_ad G v1)] σ (some (.int q.1)) q.2 := by
  refine kf_Ct.of hty.1 (lv := [(0, .ref (kf_ad G v0)), (1, .ref (kf_ad G v1))]) (by decide +kernel) rfl (Nat.le_of_ble_eq_true rfl) (fun X E => ?_)
  unfold f_X2_worth at h
  refine wa_iconst 0 ic_0 E d_X2_worth_0 ?_
  refine wa_istore_n (lv' := [(2, .int 0), (0, .ref (kf_ad G v0)), (1, .ref (kf_ad G v1))]) rfl (by decide) rfl E d_X2_worth_1 ?_
  refine wa_iconst 0 ic_0 E d_X2_worth_2 ?_
  refine wa_istore_n (lv' := [(3, .int 0), (2, .int 0), (0, .ref (kf_ad G v0)), (1, .ref (kf_ad G v1))]) rfl (by decide) rfl E d_X2_worth_3 ?_
  refine wa_iconst 0 ic_0 E d_X2_worth_4 ?_
  refine wa_istore (lv' := [(4, .int 0), (3, .int 0), (2, .int 0), (0, .ref (kf_ad G v0)), (1, .ref (kf_ad G v1))]) (by decide) rfl E d_X2_worth_5 ?_
  refine wa_sub [3, 4, 2, 1, 0] rfl ?_
  exact b_X2_worth_7 E hty kf_F v0 v1 0 0 0 k_v0 k_v1 σ h
/-! X4_payOf -/
theorem d_X4_payOf_0 : kf_dq cX4_payOf 0 1 1 (.aload_n 0) := ⟨by decide +kernel, rfl⟩
theorem d_X4_payOf_1 : kf_dq cX4_payOf 1 2 1 (.aload_n 1) := ⟨by decide +kernel, rfl⟩
theorem d_X4_payOf_2 : kf_dq cX4_payOf 2 3 1 (.iload_n 2) := ⟨by decide +kernel, rfl⟩
theorem d_X4_payOf_3 : kf_dq cX4_payOf 3 4 1 (.aload_n 0) := ⟨by decide +kernel, rfl⟩
theorem d_X4_payOf_4 : kf_dq cX4_payOf 4 7 3 (.getfield 9) := ⟨by decide +kernel, rfl⟩
theorem d_X4_payOf_7 : kf_dq cX4_payOf 7 8 1 (.aload_n 1) := ⟨by decide +kernel, rfl⟩
theorem d_X4_payOf_8 : kf_dq cX4_payOf 8 11 3 (.getfield 36) := ⟨by decide +kernel, rfl⟩
theorem d_X4_payOf_11 : kf_dq cX4_payOf 11 12 1 (.iload_n 2) := ⟨by decide +kernel, rfl⟩
theorem d_X4_payOf_12 : kf_dq cX4_payOf 12 15 3 (.invokevirtual 39) := ⟨by decide +kernel, rfl⟩
theorem d_X4_payOf_15 : kf_dq cX4_payOf 15 16 1 (.iload_n 3) := ⟨by decide +kernel, rfl⟩
theorem d_X4_payOf_16 : kf_dq cX4_payOf 16 19 3 (.invokevirtual 45) := ⟨by decide +kernel, rfl⟩
theorem d_X4_payOf_19 : kf_dq cX4_payOf 19 20 1 (.aload_n 0) := ⟨by decide +kernel, rfl⟩
theorem d_X4_payOf_20 : kf_dq cX4_payOf 20 23 3 (.getfield 17) := ⟨by decide +kernel, rfl⟩
theorem d_X4_payOf_23 : kf_dq cX4_payOf 23 24 1 (.iconst 0) := ⟨by decide +kernel, rfl⟩
theorem d_X4_payOf_24 : kf_dq cX4_payOf 24 25 1 (.iconst 0) := ⟨by decide +kernel, rfl⟩
theorem d_X4_payOf_25 : kf_dq cX4_payOf 25 26 1 (.iastore) := ⟨by decide +kernel, rfl⟩
theorem d_X4_payOf_26 : kf_dq cX4_payOf 26 27 1 (.aload_n 0) := ⟨by decide +kernel, rfl⟩
theorem d_X4_payOf_27 : kf_dq cX4_payOf 27 30 3 (.getfield 17) := ⟨by decide +kernel, rfl⟩
theorem d_X4_payOf_30 : kf_dq cX4_payOf 30 31 1 (.iconst 1) := ⟨by decide +kernel, rfl⟩
theorem d_X4_payOf_31 : kf_dq cX4_payOf 31 32 1 (.iconst 0) := ⟨by decide +kernel, rfl⟩
theorem d_X4_payOf_32 : kf_dq cX4_payOf 32 33 1 (.iastore) := ⟨by decide +kernel, rfl⟩
theorem d_X4_payOf_33 : kf_dq cX4_payOf 33 34 1 (.aload_n 0) := ⟨by decide +kernel, rfl⟩
theorem d_X4_payOf_34 : kf_dq cX4_payOf 34 37 3 (.getfield 17) := ⟨by decide +kernel, rfl⟩
theorem d_X4_payOf_37 : kf_dq cX4_payOf 37 38 1 (.iconst 5) := ⟨by decide +kernel, rfl⟩
theorem d_X4_payOf_38 : kf_dq cX4_payOf 38 39 1 (.iconst 0) := ⟨by decide +kernel, rfl⟩
theorem d_X4_payOf_39 : kf_dq cX4_payOf 39 40 1 (.iastore) := ⟨by decide +kernel, rfl⟩
theorem d_X4_payOf_40 : kf_dq cX4_payOf 40 41 1 (.iconst 0) := ⟨by decide +kernel, rfl⟩
theorem d_X4_payOf_41 : kf_dq cX4_payOf 41 43 2 (.bipush 99) := ⟨by decide +kernel, rfl⟩
theorem d_X4_payOf_43 : kf_dq cX4_payOf 43 44 1 (.aload_n 0) := ⟨by decide +kernel, rfl⟩
theorem d_X4_payOf_44 : kf_dq cX4_payOf 44 47 3 (.getfield 9) := ⟨by decide +kernel, rfl⟩
theorem d_X4_payOf_47 : kf_dq cX4_payOf 47 50 3 (.getfield 49) := ⟨by decide +kernel, rfl⟩
theorem d_X4_payOf_50 : kf_dq cX4_payOf 50 51 1 (.aload_n 0) := ⟨by decide +kernel, rfl⟩
theorem d_X4_payOf_51 : kf_dq cX4_payOf 51 54 3 (.getfield 17) := ⟨by decide +kernel, rfl⟩
theorem d_X4_payOf_54 : kf_dq cX4_payOf 54 57 3 (.invokevirtual 53) := ⟨by decide +kernel, rfl⟩
theorem d_X4_payOf_57 : kf_dq cX4_payOf 57 60 3 (.invokestatic 59) := ⟨by decide +kernel, rfl⟩
theorem d_X4_payOf_60 : kf_dq cX4_payOf 60 63 3 (.invokestatic 65) := ⟨by decide +kernel, rfl⟩
theorem d_X4_payOf_63 : kf_dq cX4_payOf 63 64 1 (.ireturn) := ⟨by decide +kernel, rfl⟩
def f_X4_payOf (v0 : Nat) (v1 : Nat) (v2 : Int32) (v3 : Int32) (σ : kf_St) : Option (Int32 × kf_St) :=
  (f_X10_unlikeTo (kf_rf v0 0) (kf_rf v1 0) v2 σ).bind fun q_1 =>
  (f_X4_look v0 v1 v2 q_1.1 v3 q_1.2).bind fun q_2 =>
  if kf_ix 0 (kf_ln (kf_rf v0 1)) = true then
  kf_lt (kf_wi q_2 (kf_rf v0 1) (Int32.toNatClampNeg 0) 0) fun σ_4 =>
  if kf_ix 1 (kf_ln (kf_rf v0 1)) = true then
  kf_lt (kf_wi σ_4 (kf_rf v0 1) (Int32.toNatClampNeg 1) 0) fun σ_6 =>
  if kf_ix 5 (kf_ln (kf_rf v0 1)) = true then
  kf_lt (kf_wi σ_6 (kf_rf v0 1) (Int32.toNatClampNeg 5) 0) fun σ_8 =>
  (f_X2_worth (kf_rf (kf_rf v0 0) 16) (kf_rf v0 1) σ_8).bind fun q_9 =>
  kf_lt (if q_9.1 < 99 then q_9.1 else 99) fun x_10 =>
  kf_lt (if 0 < x_10 then x_10 else 0) fun x_11 =>
  some (x_11, q_9.2)
  else none
  else none
  else none
set_option maxRecDepth 100000 in
set_option maxHeartbeats 4000000 in
theorem c_X4_payOf {G : kf_G} (hty : kf_wt G) (v0 : Nat) (v1 : Nat) (v2 : Int32) (v3 : Int32) (k_v0 : kf_kd G v0 = 5) (k_v1 : kf_kd G v1 = 2) (σ : kf_St) {q : (Int32 × kf_St)} (h : f_X4_payOf v0 v1 v2 v3 σ = some q) : kf_Ct (3) yX4_payOf cX4_payOf 4 (some .int) G [.ref (kf_ad G v0), .ref (kf_ad G v1), .int v2, .int v3] σ (some (.int q.1)) q.2 := by
  refine kf_Ct.of hty.1 (lv := [(0, .ref (kf_ad G v0)), (1, .ref (kf_ad G v1)), (2, .int v2), (3, .int v3)]) (by decide +kernel) rfl (Nat.le_of_ble_eq_true rfl) (fun X E => ?_)
  unfold f_X4_payOf at h
  refine wa_aload_n 0 rfl E d_X4_payOf_0 ?_
  refine wa_aload_n 1 rfl E d_X4_payOf_1 ?_
  refine wa_iload_n 2 rfl E d_X4_payOf_2 ?_
  refine wa_aload_n 0 rfl E d_X4_payOf_3 ?_
  refine wa_getR fl_X4_9 k_v0 rfl E d_X4_payOf_4 ?_
  refine wa_aload_n 1 rfl E d_X4_payOf_7 ?_
  refine wa_getR fl_X4_36 k_v1 rfl E d_X4_payOf_8 ?_
  refine wa_iload_n 2 rfl E d_X4_payOf_11 ?_
  obtain ⟨q_1, hq_1, h⟩ := kf_bd h
  refine wa_callV (st2 := [.int q_1.1, .int v2, .ref (kf_ad G v1), .ref (kf_ad G v0)]) (c_X10_unlikeTo hty (kf_rf v0 0) (kf_rf v1 0) v2 (kf_wtf hty 0 10 k_v0 (by decide) rfl) (kf_wtf hty 0 49 k_v1 (by decide) rfl) σ hq_1) mv_X10_unlikeTo ml_X4_39 (kf_wtf hty 0 10 k_v0 (by decide) rfl) rfl (Nat.le_of_ble_eq_true rfl) rfl (Nat.le_of_ble_eq_true rfl) E d_X4_payOf_12 rfl ?_
  refine wa_iload_n 3 rfl E d_X4_payOf_15 ?_
  obtain ⟨q_2, hq_2, h⟩ := kf_bd h
  refine wa_callV (st2 := []) (c_X4_look hty v0 v1 v2 q_1.1 v3 k_v0 k_v1 q_1.2 hq_2) mv_X4_look ml_X4_45 k_v0 rfl (Nat.le_of_ble_eq_true rfl) rfl (Nat.le_of_ble_eq_true rfl) E d_X4_payOf_16 rfl ?_
  refine wa_aload_n 0 rfl E d_X4_payOf_19 ?_
  refine wa_getR fl_X4_17 k_v0 rfl E d_X4_payOf_20 ?_
  refine wa_iconst 0 ic_0 E d_X4_payOf_23 ?_
  refine wa_iconst 0 ic_0 E d_X4_payOf_24 ?_
  obtain ⟨g_3, h⟩ := kf_gd h
  obtain ⟨σ_4, eσ_4, h⟩ := kf_lte h
  refine wa_iast (kf_wtf hty 1 49 k_v0 (by decide) rfl) g_3 E d_X4_payOf_25 eσ_4 ?_
  refine wa_aload_n 0 rfl E d_X4_payOf_26 ?_
  refine wa_getR fl_X4_17 k_v0 rfl E d_X4_payOf_27 ?_
  refine wa_iconst 1 ic_1 E d_X4_payOf_30 ?_
  refine wa_iconst 0 ic_0 E d_X4_payOf_31 ?_
  obtain ⟨g_5, h⟩ := kf_gd h
  obtain ⟨σ_6, eσ_6, h⟩ := kf_lte h
  refine wa_iast (kf_wtf hty 1 49 k_v0 (by decide) rfl) g_5 E d_X4_payOf_32 eσ_6 ?_
  refine wa_aload_n 0 rfl E d_X4_payOf_33 ?_
  refine wa_getR fl_X4_17 k_v0 rfl E d_X4_payOf_34 ?_
  refine wa_iconst 5 ic_5 E d_X4_payOf_37 ?_
  refine wa_iconst 0 ic_0 E d_X4_payOf_38 ?_
  obtain ⟨g_7, h⟩ := kf_gd h
  obtain ⟨σ_8, eσ_8, h⟩ := kf_lte h
  refine wa_iast (kf_wtf hty 1 49 k_v0 (by decide) rfl) g_7 E d_X4_payOf_39 eσ_8 ?_
  refine wa_iconst 0 ic_0 E d_X4_payOf_40 ?_
  refine wa_bipush 99 bp_99 E d_X4_payOf_41 ?_
  refine wa_aload_n 0 rfl E d_X4_payOf_43 ?_
  refine wa_getR fl_X4_9 k_v0 rfl E d_X4_payOf_44 ?_
  refine wa_getR fl_X4_49 (kf_wtf hty 0 10 k_v0 (by decide) rfl) rfl E d_X4_payOf_47 ?_
  refine wa_aload_n 0 rfl E d_X4_payOf_50 ?_
  refine wa_getR fl_X4_17 k_v0 rfl E d_X4_payOf_51 ?_
  obtain ⟨q_9, hq_9, h⟩ := kf_bd h
  refine wa_callV (st2 := [.int q_9.1, .int 99, .int 0]) (c_X2_worth hty (kf_rf (kf_rf v0 0) 16) (kf_rf v0 1) (kf_wtf hty 16 2 (kf_wtf hty 0 10 k_v0 (by decide) rfl) (by decide) rfl) (kf_wtf hty 1 49 k_v0 (by decide) rfl) σ_8 hq_9) mv_X2_worth ml_X4_53 (kf_wtf hty 16 2 (kf_wtf hty 0 10 k_v0 (by decide) rfl) (by decide) rfl) rfl (Nat.le_of_ble_eq_true rfl) rfl (Nat.le_of_ble_eq_true rfl) E d_X4_payOf_54 rfl ?_
  refine wa_mmin ml_X4_59 ms_min mini mc_min (Nat.le_of_ble_eq_true rfl) (Nat.le_of_ble_eq_true rfl) E d_X4_payOf_57 ?_
  obtain ⟨x_10, ex_10, h⟩ := kf_lte h
  refine wa_topi ex_10 ?_
  refine wa_mmax ml_X4_65 ms_max mini mc_max (Nat.le_of_ble_eq_true rfl) (Nat.le_of_ble_eq_true rfl) E d_X4_payOf_60 ?_
  obtain ⟨x_11, ex_11, h⟩ := kf_lte h
  refine wa_topi ex_11 ?_
  cases h
  exact wa_iret E d_X4_payOf_63
/-! X4_stepOf -/
theorem d_X4_stepOf_0 : kf_dq cX4_stepOf 0 1 1 (.aload_n 2) := ⟨by decide +kernel, rfl⟩
theorem d_X4_stepOf_1 : kf_dq cX4_stepOf 1 4 3 (.getfield 36) := ⟨by decide +kernel, rfl⟩
theorem d_X4_stepOf_4 : kf_dq cX4_stepOf 4 6 2 (.iload 5) := ⟨by decide +kernel, rfl⟩
theorem d_X4_stepOf_6 : kf_dq cX4_stepOf 6 7 1 (.iaload) := ⟨by decide +kernel, rfl⟩
theorem d_X4_stepOf_7 : kf_dq cX4_stepOf 7 8 1 (.aload_n 3) := ⟨by decide +kernel, rfl⟩
theorem d_X4_stepOf_8 : kf_dq cX4_stepOf 8 9 1 (.iconst 4) := ⟨by decide +kernel, rfl⟩
theorem d_X4_stepOf_9 : kf_dq cX4_stepOf 9 11 2 (.iload 4) := ⟨by decide +kernel, rfl⟩
theorem d_X4_stepOf_11 : kf_dq cX4_stepOf 11 12 1 (.imul) := ⟨by decide +kernel, rfl⟩
theorem d_X4_stepOf_12 : kf_dq cX4_stepOf 12 14 2 (.iload 5) := ⟨by decide +kernel, rfl⟩
theorem d_X4_stepOf_14 : kf_dq cX4_stepOf 14 15 1 (.iadd) := ⟨by decide +kernel, rfl⟩
theorem d_X4_stepOf_15 : kf_dq cX4_stepOf 15 16 1 (.iaload) := ⟨by decide +kernel, rfl⟩
theorem d_X4_stepOf_16 : kf_dq cX4_stepOf 16 17 1 (.isub) := ⟨by decide +kernel, rfl⟩
theorem d_X4_stepOf_17 : kf_dq cX4_stepOf 17 20 3 (.invokestatic 68) := ⟨by decide +kernel, rfl⟩
theorem d_X4_stepOf_20 : kf_dq cX4_stepOf 20 22 2 (.istore 7) := ⟨by decide +kernel, rfl⟩
theorem d_X4_stepOf_22 : kf_dq cX4_stepOf 22 24 2 (.iload 7) := ⟨by decide +kernel, rfl⟩
theorem d_X4_stepOf_24 : kf_dj cX4_stepOf 24 27 29 (.ifCond .ne) := ⟨5, by decide +kernel, rfl, by decide⟩
theorem d_X4_stepOf_27 : kf_dq cX4_stepOf 27 28 1 (.iconst 0) := ⟨by decide +kernel, rfl⟩
theorem d_X4_stepOf_28 : kf_dq cX4_stepOf 28 29 1 (.ireturn) := ⟨by decide +kernel, rfl⟩
theorem d_X4_stepOf_29 : kf_dq cX4_stepOf 29 30 1 (.aload_n 0) := ⟨by decide +kernel, rfl⟩
theorem d_X4_stepOf_30 : kf_dq cX4_stepOf 30 31 1 (.aload_n 2) := ⟨by decide +kernel, rfl⟩
theorem d_X4_stepOf_31 : kf_dq cX4_stepOf 31 33 2 (.iload 4) := ⟨by decide +kernel, rfl⟩
theorem d_X4_stepOf_33 : kf_dq cX4_stepOf 33 34 1 (.aload_n 2) := ⟨by decide +kernel, rfl⟩
theorem d_X4_stepOf_34 : kf_dq cX4_stepOf 34 37 3 (.getfield 36) := ⟨by decide +kernel, rfl⟩
theorem d_X4_stepOf_37 : kf_dq cX4_stepOf 37 38 1 (.iconst 0) := ⟨by decide +kernel, rfl⟩
theorem d_X4_stepOf_38 : kf_dq cX4_stepOf 38 39 1 (.aload_n 3) := ⟨by decide +kernel, rfl⟩
theorem d_X4_stepOf_39 : kf_dq cX4_stepOf 39 41 2 (.iload 4) := ⟨by decide +kernel, rfl⟩
theorem d_X4_stepOf_41 : kf_dq cX4_stepOf 41 44 3 (.invokestatic 72) := ⟨by decide +kernel, rfl⟩
theorem d_X4_stepOf_44 : kf_dq cX4_stepOf 44 46 2 (.iload 6) := ⟨by decide +kernel, rfl⟩
theorem d_X4_stepOf_46 : kf_dq cX4_stepOf 46 49 3 (.invokevirtual 45) := ⟨by decide +kernel, rfl⟩
theorem d_X4_stepOf_49 : kf_dq cX4_stepOf 49 50 1 (.aload_n 0) := ⟨by decide +kernel, rfl⟩
theorem d_X4_stepOf_50 : kf_dq cX4_stepOf 50 53 3 (.getfield 17) := ⟨by decide +kernel, rfl⟩
theorem d_X4_stepOf_53 : kf_dq cX4_stepOf 53 54 1 (.iconst 0) := ⟨by decide +kernel, rfl⟩
theorem d_X4_stepOf_54 : kf_dq cX4_stepOf 54 56 2 (.iload 7) := ⟨by decide +kernel, rfl⟩
theorem d_X4_stepOf_56 : kf_dq cX4_stepOf 56 57 1 (.iastore) := ⟨by decide +kernel, rfl⟩
theorem d_X4_stepOf_57 : kf_dq cX4_stepOf 57 58 1 (.aload_n 0) := ⟨by decide +kernel, rfl⟩
theorem d_X4_stepOf_58 : kf_dq cX4_stepOf 58 61 3 (.getfield 17) := ⟨by decide +kernel, rfl⟩
theorem d_X4_stepOf_61 : kf_dq cX4_stepOf 61 62 1 (.iconst 1) := ⟨by decide +kernel, rfl⟩
theorem d_X4_stepOf_62 : kf_dq cX4_stepOf 62 64 2 (.iload 5) := ⟨by decide +kernel, rfl⟩
theorem d_X4_stepOf_64 : kf_dq cX4_stepOf 64 65 1 (.iastore) := ⟨by decide +kernel, rfl⟩
theorem d_X4_stepOf_65 : kf_dq cX4_stepOf 65 66 1 (.aload_n 0) := ⟨by decide +kernel, rfl⟩
theorem d_X4_stepOf_66 : kf_dq cX4_stepOf 66 69 3 (.getfield 17) := ⟨by decide +kernel, rfl⟩
theorem d_X4_stepOf_69 : kf_dq cX4_stepOf 69 70 1 (.iconst 5) := ⟨by decide +kernel, rfl⟩
theorem d_X4_stepOf_70 : kf_dq cX4_stepOf 70 71 1 (.aload_n 2) := ⟨by decide +kernel, rfl⟩
theorem d_X4_stepOf_71 : kf_dq cX4_stepOf 71 74 3 (.getfield 36) := ⟨by decide +kernel, rfl⟩
theorem d_X4_stepOf_74 : kf_dq cX4_stepOf 74 76 2 (.iload 5) := ⟨by decide +kernel, rfl⟩
theorem d_X4_stepOf_76 : kf_dq cX4_stepOf 76 77 1 (.iaload) := ⟨by decide +kernel, rfl⟩
theorem d_X4_stepOf_77 : kf_dq cX4_stepOf 77 78 1 (.iastore) := ⟨by decide +kernel, rfl⟩
theorem d_X4_stepOf_78 : kf_dq cX4_stepOf 78 79 1 (.iconst 0) := ⟨by decide +kernel, rfl⟩
theorem d_X4_stepOf_79 : kf_dq cX4_stepOf 79 81 2 (.iload 7) := ⟨by decide +kernel, rfl⟩
theorem d_X4_stepOf_81 : kf_dq cX4_stepOf 81 82 1 (.aload_n 1) := ⟨by decide +kernel, rfl⟩
theorem d_X4_stepOf_82 : kf_dq cX4_stepOf 82 83 1 (.aload_n 0) := ⟨by decide +kernel, rfl⟩
theorem d_X4_stepOf_83 : kf_dq cX4_stepOf 83 86 3 (.getfield 17) := ⟨by decide +kernel, rfl⟩
theorem d_X4_stepOf_86 : kf_dq cX4_stepOf 86 89 3 (.invokevirtual 53) := ⟨by decide +kernel, rfl⟩
theorem d_X4_stepOf_89 : kf_dq cX4_stepOf 89 92 3 (.invokestatic 59) := ⟨by decide +kernel, rfl⟩
theorem d_X4_stepOf_92 : kf_dq cX4_stepOf 92 95 3 (.invokestatic 65) := ⟨by decide +kernel, rfl⟩
theorem d_X4_stepOf_95 : kf_dq cX4_stepOf 95 96 1 (.ireturn) := ⟨by decide +kernel, rfl⟩
def f_X4_stepOf (v0 : Nat) (v1 : Nat) (v2 : Nat) (v3 : Nat) (v4 : Int32) (v5 : Int32) (v6 : Int32) (σ : kf_St) : Option (Int32 × kf_St) :=
  if kf_ix v5 (kf_ln (kf_rf v2 0)) = true then
  if kf_ix ((4 * v4) + v5) (kf_ln v3) = true then
  kf_lt (if 0 ≤ ((σ.1 (kf_rf v2 0) (Int32.toNatClampNeg v5)) - (σ.1 v3 (Int32.toNatClampNeg ((4 * v4) + v5)))) then ((σ.1 (kf_rf v2 0) (Int32.toNatClampNeg v5)) - (σ.1 v3 (Int32.toNatClampNeg ((4 * v4) + v5)))) else 0 - ((σ.1 (kf_rf v2 0) (Int32.toNatClampNeg v5)) - (σ.1 v3 (Int32.toNatClampNeg ((4 * v4) + v5))))) fun x_3 =>
  if x_3 = 0 then
    some (0, σ)
  else
    (f_X10_difference (kf_rf v2 0) 0 v3 v4 σ).bind fun q_5 =>
    (f_X4_look v0 v2 v4 q_5.1 v6 q_5.2).bind fun q_6 =>
    if kf_ix 0 (kf_ln (kf_rf v0 1)) = true then
    kf_lt (kf_wi q_6 (kf_rf v0 1) (Int32.toNatClampNeg 0) x_3) fun σ_8 =>
    if kf_ix 1 (kf_ln (kf_rf v0 1)) = true then
    kf_lt (kf_wi σ_8 (kf_rf v0 1) (Int32.toNatClampNeg 1) v5) fun σ_10 =>
    if kf_ix v5 (kf_ln (kf_rf v2 0)) = true then
    if kf_ix 5 (kf_ln (kf_rf v0 1)) = true then
    kf_lt (kf_wi σ_10 (kf_rf v0 1) (Int32.toNatClampNeg 5) (σ_10.1 (kf_rf v2 0) (Int32.toNatClampNeg v5))) fun σ_13 =>
    (f_X2_worth v1 (kf_rf v0 1) σ_13).bind fun q_14 =>
    kf_lt (if q_14.1 < x_3 then q_14.1 else x_3) fun x_15 =>
    kf_lt (if 0 < x_15 then x_15 else 0) fun x_16 =>
    some (x_16, q_14.2)
    else none
    else none
    else none
    else none
  else none
  else none
set_option maxRecDepth 100000 in
set_option maxHeartbeats 4000000 in
theorem c_X4_stepOf {G : kf_G} (hty : kf_wt G) (v0 : Nat) (v1 : Nat) (v2 : Nat) (v3 : Nat) (v4 : Int32) (v5 : Int32) (v6 : Int32) (k_v0 : kf_kd G v0 = 5) (k_v1 : kf_kd G v1 = 3) (k_v2 : kf_kd G v2 = 2) (k_v3 : kf_kd G v3 = 50) (σ : kf_St) {q : (Int32 × kf_St)} (h : f_X4_stepOf v0 v1 v2 v3 v4 v5 v6 σ = some q) : kf_Ct (3) yX4_stepOf cX4_stepOf 8 (some .int) G [.ref (kf_ad G v0), .ref (kf_ad G v1), .ref (kf_ad G v2), .ref (kf_ad G v3), .int v4, .int v5, .int v6] σ (some (.int q.1)) q.2 := by
  refine kf_Ct.of hty.1 (lv := [(0, .ref (kf_ad G v0)), (1, .ref (kf_ad G v1)), (2, .ref (kf_ad G v2)), (3, .ref (kf_ad G v3)), (4, .int v4), (5, .int v5), (6, .int v6)]) (by decide +kernel) rfl (Nat.le_of_ble_eq_true rfl) (fun X E => ?_)
  unfold f_X4_stepOf at h
  refine wa_aload_n 2 rfl E d_X4_stepOf_0 ?_
  refine wa_getR fl_X4_36 k_v2 rfl E d_X4_stepOf_1 ?_
  refine wa_iload 5 rfl E d_X4_stepOf_4 ?_
  obtain ⟨g_1, h⟩ := kf_gd h
  refine wa_iald (kf_wtf hty 0 49 k_v2 (by decide) rfl) g_1 E d_X4_stepOf_6 ?_
  refine wa_aload_n 3 rfl E d_X4_stepOf_7 ?_
  refine wa_iconst 4 ic_4 E d_X4_stepOf_8 ?_
  refine wa_iload 4 rfl E d_X4_stepOf_9 ?_
  refine wa_imul E d_X4_stepOf_11 ?_
  refine wa_iload 5 rfl E d_X4_stepOf_12 ?_
  refine wa_iadd E d_X4_stepOf_14 ?_
  obtain ⟨g_2, h⟩ := kf_gd h
  refine wa_iald k_v3 g_2 E d_X4_stepOf_15 ?_
  refine wa_isub E d_X4_stepOf_16 ?_
  refine wa_mabs ml_X4_68 ms_abs mini mc_abs (Nat.le_of_ble_eq_true rfl) (Nat.le_of_ble_eq_true rfl) E d_X4_stepOf_17 ?_
  obtain ⟨x_3, ex_3, h⟩ := kf_lte h
  refine wa_topi ex_3 ?_
  refine wa_istore (lv' := [(7, .int x_3), (0, .ref (kf_ad G v0)), (1, .ref (kf_ad G v1)), (2, .ref (kf_ad G v2)), (3, .ref (kf_ad G v3)), (4, .int v4), (5, .int v5), (6, .int v6)]) (by decide) rfl E d_X4_stepOf_20 ?_
  refine wa_iload 0 rfl E d_X4_stepOf_22 ?_
  refine wa_if_ne E d_X4_stepOf_24 (fun c_4 => ?_) (fun c_4 => ?_)
  · replace h := kf_iff c_4 h
    refine wa_aload_n 1 rfl E d_X4_stepOf_29 ?_
    refine wa_aload_n 3 rfl E d_X4_stepOf_30 ?_
    refine wa_iload 5 rfl E d_X4_stepOf_31 ?_
    refine wa_aload_n 3 rfl E d_X4_stepOf_33 ?_
    refine wa_getR fl_X4_36 k_v2 rfl E d_X4_stepOf_34 ?_
    refine wa_iconst 0 ic_0 E d_X4_stepOf_37 ?_
    refine wa_aload_n 4 rfl E d_X4_stepOf_38 ?_
    refine wa_iload 5 rfl E d_X4_stepOf_39 ?_
    obtain ⟨q_5, hq_5, h⟩ := kf_bd h
    refine wa_callS (st2 := [.int q_5.1, .int v4, .ref (kf_ad G v2), .ref (kf_ad G v0)]) (c_X10_difference hty (kf_rf v2 0) 0 v3 v4 (kf_wtf hty 0 49 k_v2 (by decide) rfl) k_v3 σ hq_5) mt_X10_difference ml_X4_72 rfl (Nat.le_of_ble_eq_true rfl) rfl (Nat.le_of_ble_eq_true rfl) E d_X4_stepOf_41 rfl ?_
    refine wa_iload 7 rfl E d_X4_stepOf_44 ?_
    obtain ⟨q_6, hq_6, h⟩ := kf_bd h
    refine wa_callV (st2 := []) (c_X4_look hty v0 v2 v4 q_5.1 v6 k_v0 k_v2 q_5.2 hq_6) mv_X4_look ml_X4_45 k_v0 rfl (Nat.le_of_ble_eq_true rfl) rfl (Nat.le_of_ble_eq_true rfl) E d_X4_stepOf_46 rfl ?_
    refine wa_aload_n 1 rfl E d_X4_stepOf_49 ?_
    refine wa_getR fl_X4_17 k_v0 rfl E d_X4_stepOf_50 ?_
    refine wa_iconst 0 ic_0 E d_X4_stepOf_53 ?_
    refine wa_iload 0 rfl E d_X4_stepOf_54 ?_
    obtain ⟨g_7, h⟩ := kf_gd h
    obtain ⟨σ_8, eσ_8, h⟩ := kf_lte h
    refine wa_iast (kf_wtf hty 1 49 k_v0 (by decide) rfl) g_7 E d_X4_stepOf_56 eσ_8 ?_
    refine wa_aload_n 1 rfl E d_X4_stepOf_57 ?_
    refine wa_getR fl_X4_17 k_v0 rfl E d_X4_stepOf_58 ?_
    refine wa_iconst 1 ic_1 E d_X4_stepOf_61 ?_
    refine wa_iload 6 rfl E d_X4_stepOf_62 ?_
    obtain ⟨g_9, h⟩ := kf_gd h
    obtain ⟨σ_10, eσ_10, h⟩ := kf_lte h
    refine wa_iast (kf_wtf hty 1 49 k_v0 (by decide) rfl) g_9 E d_X4_stepOf_64 eσ_10 ?_
    refine wa_aload_n 1 rfl E d_X4_stepOf_65 ?_
    refine wa_getR fl_X4_17 k_v0 rfl E d_X4_stepOf_66 ?_
    refine wa_iconst 5 ic_5 E d_X4_stepOf_69 ?_
    refine wa_aload_n 3 rfl E d_X4_stepOf_70 ?_
    refine wa_getR fl_X4_36 k_v2 rfl E d_X4_stepOf_71 ?_
    refine wa_iload 6 rfl E d_X4_stepOf_74 ?_
    obtain ⟨g_11, h⟩ := kf_gd h
    refine wa_iald (kf_wtf hty 0 49 k_v2 (by decide) rfl) g_11 E d_X4_stepOf_76 ?_
    obtain ⟨g_12, h⟩ := kf_gd h
    obtain ⟨σ_13, eσ_13, h⟩ := kf_lte h
    refine wa_iast (kf_wtf hty 1 49 k_v0 (by decide) rfl) g_12 E d_X4_stepOf_77 eσ_13 ?_
    refine wa_iconst 0 ic_0 E d_X4_stepOf_78 ?_
    refine wa_iload 0 rfl E d_X4_stepOf_79 ?_
    refine wa_aload_n 2 rfl E d_X4_stepOf_81 ?_
    refine wa_aload_n 1 rfl E d_X4_stepOf_82 ?_
    refine wa_getR fl_X4_17 k_v0 rfl E d_X4_stepOf_83 ?_
    obtain ⟨q_14, hq_14, h⟩ := kf_bd h
    refine wa_callV (st2 := [.int q_14.1, .int x_3, .int 0]) (c_X2_worth hty v1 (kf_rf v0 1) k_v1 (kf_wtf hty 1 49 k_v0 (by decide) rfl) σ_13 hq_14) mv_X2_worth ml_X4_53 k_v1 rfl (Nat.le_of_ble_eq_true rfl) rfl (Nat.le_of_ble_eq_true rfl) E d_X4_stepOf_86 rfl ?_
    refine wa_mmin ml_X4_59 ms_min mini mc_min (Nat.le_of_ble_eq_true rfl) (Nat.le_of_ble_eq_true rfl) E d_X4_stepOf_89 ?_
    obtain ⟨x_15, ex_15, h⟩ := kf_lte h
    refine wa_topi ex_15 ?_
    refine wa_mmax ml_X4_65 ms_max mini mc_max (Nat.le_of_ble_eq_true rfl) (Nat.le_of_ble_eq_true rfl) E d_X4_stepOf_92 ?_
    obtain ⟨x_16, ex_16, h⟩ := kf_lte h
    refine wa_topi ex_16 ?_
    cases h
    exact wa_iret E d_X4_stepOf_95
  · replace h := kf_ift c_4 h
    refine wa_iconst 0 ic_0 E d_X4_stepOf_27 ?_
    cases h
    exact wa_iret E d_X4_stepOf_28
/-! X4_moveBy -/
theorem d_X4_moveBy_0 : kf_dq cX4_moveBy 0 1 1 (.iconst 0) := ⟨by decide +kernel, rfl⟩
theorem d_X4_moveBy_1 : kf_dq cX4_moveBy 1 3 2 (.istore 6) := ⟨by decide +kernel, rfl⟩
theorem d_X4_moveBy_3 : kf_dq cX4_moveBy 3 5 2 (.iload 6) := ⟨by decide +kernel, rfl⟩
theorem d_X4_moveBy_5 : kf_dq cX4_moveBy 5 6 1 (.iconst 4) := ⟨by decide +kernel, rfl⟩
theorem d_X4_moveBy_6 : kf_dj cX4_moveBy 6 9 76 (.if_icmp .ge) := ⟨70, by decide +kernel, rfl, by decide⟩
theorem d_X4_moveBy_9 : kf_dq cX4_moveBy 9 10 1 (.aload_n 0) := ⟨by decide +kernel, rfl⟩
theorem d_X4_moveBy_10 : kf_dq cX4_moveBy 10 11 1 (.aload_n 1) := ⟨by decide +kernel, rfl⟩
theorem d_X4_moveBy_11 : kf_dq cX4_moveBy 11 12 1 (.aload_n 2) := ⟨by decide +kernel, rfl⟩
theorem d_X4_moveBy_12 : kf_dq cX4_moveBy 12 13 1 (.aload_n 3) := ⟨by decide +kernel, rfl⟩
theorem d_X4_moveBy_13 : kf_dq cX4_moveBy 13 15 2 (.iload 4) := ⟨by decide +kernel, rfl⟩
theorem d_X4_moveBy_15 : kf_dq cX4_moveBy 15 17 2 (.iload 6) := ⟨by decide +kernel, rfl⟩
theorem d_X4_moveBy_17 : kf_dq cX4_moveBy 17 19 2 (.iload 5) := ⟨by decide +kernel, rfl⟩
theorem d_X4_moveBy_19 : kf_dq cX4_moveBy 19 22 3 (.invokevirtual 76) := ⟨by decide +kernel, rfl⟩
theorem d_X4_moveBy_22 : kf_dq cX4_moveBy 22 24 2 (.istore 7) := ⟨by decide +kernel, rfl⟩
theorem d_X4_moveBy_24 : kf_dq cX4_moveBy 24 25 1 (.aload_n 2) := ⟨by decide +kernel, rfl⟩
theorem d_X4_moveBy_25 : kf_dq cX4_moveBy 25 28 3 (.getfield 36) := ⟨by decide +kernel, rfl⟩
theorem d_X4_moveBy_28 : kf_dq cX4_moveBy 28 30 2 (.iload 6) := ⟨by decide +kernel, rfl⟩
theorem d_X4_moveBy_30 : kf_dq cX4_moveBy 30 31 1 (.iaload) := ⟨by decide +kernel, rfl⟩
theorem d_X4_moveBy_31 : kf_dq cX4_moveBy 31 32 1 (.aload_n 3) := ⟨by decide +kernel, rfl⟩
theorem d_X4_moveBy_32 : kf_dq cX4_moveBy 32 33 1 (.iconst 4) := ⟨by decide +kernel, rfl⟩
theorem d_X4_moveBy_33 : kf_dq cX4_moveBy 33 35 2 (.iload 4) := ⟨by decide +kernel, rfl⟩
theorem d_X4_moveBy_35 : kf_dq cX4_moveBy 35 36 1 (.imul) := ⟨by decide +kernel, rfl⟩
theorem d_X4_moveBy_36 : kf_dq cX4_moveBy 36 38 2 (.iload 6) := ⟨by decide +kernel, rfl⟩
theorem d_X4_moveBy_38 : kf_dq cX4_moveBy 38 39 1 (.iadd) := ⟨by decide +kernel, rfl⟩
theorem d_X4_moveBy_39 : kf_dq cX4_moveBy 39 40 1 (.iaload) := ⟨by decide +kernel, rfl⟩
theorem d_X4_moveBy_40 : kf_dj cX4_moveBy 40 43 47 (.if_icmp .ge) := ⟨7, by decide +kernel, rfl, by decide⟩
theorem d_X4_moveBy_43 : kf_dq cX4_moveBy 43 44 1 (.iconst 1) := ⟨by decide +kernel, rfl⟩
theorem d_X4_moveBy_44 : kf_dj cX4_moveBy 44 47 48 .goto := ⟨4, by decide +kernel, rfl, by decide⟩
theorem d_X4_moveBy_47 : kf_dq cX4_moveBy 47 48 1 (.iconst 0) := ⟨by decide +kernel, rfl⟩
theorem d_X4_moveBy_48 : kf_dq cX4_moveBy 48 50 2 (.istore 8) := ⟨by decide +kernel, rfl⟩
theorem d_X4_moveBy_50 : kf_dq cX4_moveBy 50 51 1 (.aload_n 0) := ⟨by decide +kernel, rfl⟩
theorem d_X4_moveBy_51 : kf_dq cX4_moveBy 51 54 3 (.getfield 21) := ⟨by decide +kernel, rfl⟩
theorem d_X4_moveBy_54 : kf_dq cX4_moveBy 54 56 2 (.iload 6) := ⟨by decide +kernel, rfl⟩
theorem d_X4_moveBy_56 : kf_dq cX4_moveBy 56 58 2 (.iload 8) := ⟨by decide +kernel, rfl⟩
theorem d_X4_moveBy_58 : kf_dj cX4_moveBy 58 61 66 (.ifCond .eq) := ⟨8, by decide +kernel, rfl, by decide⟩
theorem d_X4_moveBy_61 : kf_dq cX4_moveBy 61 63 2 (.iload 7) := ⟨by decide +kernel, rfl⟩
theorem d_X4_moveBy_63 : kf_dj cX4_moveBy 63 66 69 .goto := ⟨6, by decide +kernel, rfl, by decide⟩
theorem d_X4_moveBy_66 : kf_dq cX4_moveBy 66 68 2 (.iload 7) := ⟨by decide +kernel, rfl⟩
theorem d_X4_moveBy_68 : kf_dq cX4_moveBy 68 69 1 (.ineg) := ⟨by decide +kernel, rfl⟩
theorem d_X4_moveBy_69 : kf_dq cX4_moveBy 69 70 1 (.iastore) := ⟨by decide +kernel, rfl⟩
theorem d_X4_moveBy_70 : kf_dq cX4_moveBy 70 73 3 (.iinc 6 1) := ⟨by decide +kernel, rfl⟩
theorem d_X4_moveBy_73 : kf_dj cX4_moveBy 73 76 3 .goto := ⟨(-70), by decide +kernel, rfl, by decide⟩
theorem d_X4_moveBy_76 : kf_dq cX4_moveBy 76 77 1 (.iconst 0) := ⟨by decide +kernel, rfl⟩
theorem d_X4_moveBy_77 : kf_dq cX4_moveBy 77 79 2 (.istore 6) := ⟨by decide +kernel, rfl⟩
theorem d_X4_moveBy_79 : kf_dq cX4_moveBy 79 81 2 (.iload 6) := ⟨by decide +kernel, rfl⟩
theorem d_X4_moveBy_81 : kf_dq cX4_moveBy 81 82 1 (.iconst 4) := ⟨by decide +kernel, rfl⟩
theorem d_X4_moveBy_82 : kf_dj cX4_moveBy 82 85 108 (.if_icmp .ge) := ⟨26, by decide +kernel, rfl, by decide⟩
theorem d_X4_moveBy_85 : kf_dq cX4_moveBy 85 86 1 (.aload_n 2) := ⟨by decide +kernel, rfl⟩
theorem d_X4_moveBy_86 : kf_dq cX4_moveBy 86 89 3 (.getfield 36) := ⟨by decide +kernel, rfl⟩
theorem d_X4_moveBy_89 : kf_dq cX4_moveBy 89 91 2 (.iload 6) := ⟨by decide +kernel, rfl⟩
theorem d_X4_moveBy_91 : kf_dq cX4_moveBy 91 92 1 (.dup2) := ⟨by decide +kernel, rfl⟩
theorem d_X4_moveBy_92 : kf_dq cX4_moveBy 92 93 1 (.iaload) := ⟨by decide +kernel, rfl⟩
theorem d_X4_moveBy_93 : kf_dq cX4_moveBy 93 94 1 (.aload_n 0) := ⟨by decide +kernel, rfl⟩
theorem d_X4_moveBy_94 : kf_dq cX4_moveBy 94 97 3 (.getfield 21) := ⟨by decide +kernel, rfl⟩
theorem d_X4_moveBy_97 : kf_dq cX4_moveBy 97 99 2 (.iload 6) := ⟨by decide +kernel, rfl⟩
theorem d_X4_moveBy_99 : kf_dq cX4_moveBy 99 100 1 (.iaload) := ⟨by decide +kernel, rfl⟩
theorem d_X4_moveBy_100 : kf_dq cX4_moveBy 100 101 1 (.iadd) := ⟨by decide +kernel, rfl⟩
theorem d_X4_moveBy_101 : kf_dq cX4_moveBy 101 102 1 (.iastore) := ⟨by decide +kernel, rfl⟩
theorem d_X4_moveBy_102 : kf_dq cX4_moveBy 102 105 3 (.iinc 6 1) := ⟨by decide +kernel, rfl⟩
theorem d_X4_moveBy_105 : kf_dj cX4_moveBy 105 108 79 .goto := ⟨(-26), by decide +kernel, rfl, by decide⟩
theorem d_X4_moveBy_108 : kf_dq cX4_moveBy 108 109 1 (.return_) := ⟨by decide +kernel, rfl⟩
def f_X4_moveBy_79_s (rec79 : Nat → Nat → Int32 → kf_St → Option kf_St) (v0 : Nat) (v2 : Nat) (v6 : Int32) (σ : kf_St) : Option kf_St :=
  if 4 ≤ v6 then
    some σ
  else
    if kf_ix v6 (kf_ln (kf_rf v2 0)) = true then
    if kf_ix v6 (kf_ln (kf_rf v0 2)) = true then
    if kf_ix v6 (kf_ln (kf_rf v2 0)) = true then
    kf_lt (kf_wi σ (kf_rf v2 0) (Int32.toNatClampNeg v6) ((σ.1 (kf_rf v2 0) (Int32.toNatClampNeg v6)) + (σ.1 (kf_rf v0 2) (Int32.toNatClampNeg v6)))) fun σ_5 =>
    kf_lt (v6 + 1) fun v6_6 =>
    rec79 v0 v2 v6_6 σ_5
    else none
    else none
    else none
def f_X4_moveBy_79 : Nat → Nat → Nat → Int32 → kf_St → Option kf_St
  | 0, _, _, _, _ => none
  | n + 1, v0, v2, v6, σ => f_X4_moveBy_79_s (f_X4_moveBy_79 n) v0 v2 v6 σ
set_option maxRecDepth 100000 in
set_option maxHeartbeats 4000000 in
theorem b_X4_moveBy_79_s {X : kf_X} {G : kf_G} (rec79 : Nat → Nat → Int32 → kf_St → Option kf_St) {q : kf_St} (E : kf_ok X G cX4_moveBy RX4 9 none (4)) (hty : kf_wt G) (hrec79 : ∀ (v0 : Nat) (v2 : Nat) (v6 : Int32) (k_v0 : kf_kd G v0 = 5) (k_v2 : kf_kd G v2 = 2) (σ : kf_St), rec79 v0 v2 v6 σ = some q → kf_WA X G 9 (kf_Q X G none q) 79 [(0, .ref (kf_ad G v0)), (2, .ref (kf_ad G v2)), (6, .int v6)] [] σ) (v0 : Nat) (v2 : Nat) (v6 : Int32) (k_v0 : kf_kd G v0 = 5) (k_v2 : kf_kd G v2 = 2) (σ : kf_St) (h : f_X4_moveBy_79_s rec79 v0 v2 v6 σ = some q) : kf_WA X G 9 (kf_Q X G none q) 79 [(0, .ref (kf_ad G v0)), (2, .ref (kf_ad G v2)), (6, .int v6)] [] σ := by
  unfold f_X4_moveBy_79_s at h
  refine wa_iload 2 rfl E d_X4_moveBy_79 ?_
  refine wa_iconst 4 ic_4 E d_X4_moveBy_81 ?_
  refine wa_icmp_ge E d_X4_moveBy_82 (fun c_1 => ?_) (fun c_1 => ?_)
  · replace h := kf_ift c_1 h
    cases h
    exact wa_vret E d_X4_moveBy_108
  · replace h := kf_iff c_1 h
    refine wa_aload_n 1 rfl E d_X4_moveBy_85 ?_
    refine wa_getR fl_X4_36 k_v2 rfl E d_X4_moveBy_86 ?_
    refine wa_iload 2 rfl E d_X4_moveBy_89 ?_
    refine wa_dup2 rfl rfl E d_X4_moveBy_91 ?_
    obtain ⟨g_2, h⟩ := kf_gd h
    refine wa_iald (kf_wtf hty 0 49 k_v2 (by decide) rfl) g_2 E d_X4_moveBy_92 ?_
    refine wa_aload_n 0 rfl E d_X4_moveBy_93 ?_
    refine wa_getR fl_X4_21 k_v0 rfl E d_X4_moveBy_94 ?_
    refine wa_iload 2 rfl E d_X4_moveBy_97 ?_
    obtain ⟨g_3, h⟩ := kf_gd h
    refine wa_iald (kf_wtf hty 2 49 k_v0 (by decide) rfl) g_3 E d_X4_moveBy_99 ?_
    refine wa_iadd E d_X4_moveBy_100 ?_
    obtain ⟨g_4, h⟩ := kf_gd h
    obtain ⟨σ_5, eσ_5, h⟩ := kf_lte h
    refine wa_iast (kf_wtf hty 0 49 k_v2 (by decide) rfl) g_4 E d_X4_moveBy_101 eσ_5 ?_
    obtain ⟨v6_6, ev6_6, h⟩ := kf_lte h
    refine wa_iinc (lv' := [(6, .int v6_6), (0, .ref (kf_ad G v0)), (2, .ref (kf_ad G v2))]) v6_6 2 rfl (kf_inc ic_1 ev6_6) (by decide) rfl E d_X4_moveBy_102 ?_
    refine wa_goto E d_X4_moveBy_105 ?_
    refine wa_sub [1, 2, 0] rfl ?_
    exact hrec79 v0 v2 v6_6 k_v0 k_v2 σ_5 h
theorem b_X4_moveBy_79 {X : kf_X} {G : kf_G} {q : kf_St} (E : kf_ok X G cX4_moveBy RX4 9 none (4)) (hty : kf_wt G) : ∀ (N : Nat) (v0 : Nat) (v2 : Nat) (v6 : Int32) (k_v0 : kf_kd G v0 = 5) (k_v2 : kf_kd G v2 = 2) (σ : kf_St) (_ : f_X4_moveBy_79 N v0 v2 v6 σ = some q), kf_WA X G 9 (kf_Q X G none q) 79 [(0, .ref (kf_ad G v0)), (2, .ref (kf_ad G v2)), (6, .int v6)] [] σ
  | 0, _, _, _, _, _, _, h => by cases h
  | N + 1, v0, v2, v6, k_v0, k_v2, σ, h => b_X4_moveBy_79_s _ E hty (b_X4_moveBy_79 E hty N) v0 v2 v6 k_v0 k_v2 σ h
def f_X4_moveBy_69 (rec3 : Nat → Nat → Nat → Nat → Int32 → Int32 → Int32 → kf_St → Option kf_St) (v0 : Nat) (v1 : Nat) (v2 : Nat) (v3 : Nat) (v4 : Int32) (v5 : Int32) (v6 : Int32) (s0 : Nat) (s1 : Int32) (s2 : Int32) (σ : kf_St) : Option kf_St :=
  if kf_ix s1 (kf_ln s0) = true then
  kf_lt (kf_wi σ s0 (Int32.toNatClampNeg s1) s2) fun σ_2 =>
  kf_lt (v6 + 1) fun v6_3 =>
  rec3 v0 v1 v2 v3 v4 v5 v6_3 σ_2
  else none
set_option maxRecDepth 100000 in
set_option maxHeartbeats 4000000 in
theorem b_X4_moveBy_69 {X : kf_X} {G : kf_G} {rec3 : Nat → Nat → Nat → Nat → Int32 → Int32 → Int32 → kf_St → Option kf_St} {q : kf_St} (E : kf_ok X G cX4_moveBy RX4 9 none (4)) (hty : kf_wt G) (hrec3 : ∀ (v0 : Nat) (v1 : Nat) (v2 : Nat) (v3 : Nat) (v4 : Int32) (v5 : Int32) (v6 : Int32) (k_v0 : kf_kd G v0 = 5) (k_v1 : kf_kd G v1 = 3) (k_v2 : kf_kd G v2 = 2) (k_v3 : kf_kd G v3 = 50) (σ : kf_St), rec3 v0 v1 v2 v3 v4 v5 v6 σ = some q → kf_WA X G 9 (kf_Q X G none q) 3 [(0, .ref (kf_ad G v0)), (1, .ref (kf_ad G v1)), (2, .ref (kf_ad G v2)), (3, .ref (kf_ad G v3)), (4, .int v4), (5, .int v5), (6, .int v6)] [] σ) (v0 : Nat) (v1 : Nat) (v2 : Nat) (v3 : Nat) (v4 : Int32) (v5 : Int32) (v6 : Int32) (s0 : Nat) (s1 : Int32) (s2 : Int32) (k_v0 : kf_kd G v0 = 5) (k_v1 : kf_kd G v1 = 3) (k_v2 : kf_kd G v2 = 2) (k_v3 : kf_kd G v3 = 50) (k_s0 : kf_kd G s0 = 50) (σ : kf_St) (h : f_X4_moveBy_69 rec3 v0 v1 v2 v3 v4 v5 v6 s0 s1 s2 σ = some q) : kf_WA X G 9 (kf_Q X G none q) 69 [(0, .ref (kf_ad G v0)), (1, .ref (kf_ad G v1)), (2, .ref (kf_ad G v2)), (3, .ref (kf_ad G v3)), (4, .int v4), (5, .int v5), (6, .int v6)] [.int s2, .int s1, .ref (kf_ad G s0)] σ := by
  unfold f_X4_moveBy_69 at h
  obtain ⟨g_1, h⟩ := kf_gd h
  obtain ⟨σ_2, eσ_2, h⟩ := kf_lte h
  refine wa_iast k_s0 g_1 E d_X4_moveBy_69 eσ_2 ?_
  obtain ⟨v6_3, ev6_3, h⟩ := kf_lte h
  refine wa_iinc (lv' := [(6, .int v6_3), (0, .ref (kf_ad G v0)), (1, .ref (kf_ad G v1)), (2, .ref (kf_ad G v2)), (3, .ref (kf_ad G v3)), (4, .int v4), (5, .int v5)]) v6_3 6 rfl (kf_inc ic_1 ev6_3) (by decide) rfl E d_X4_moveBy_70 ?_
  refine wa_goto E d_X4_moveBy_73 ?_
  refine wa_sub [1, 2, 3, 4, 5, 6, 0] rfl ?_
  exact hrec3 v0 v1 v2 v3 v4 v5 v6_3 k_v0 k_v1 k_v2 k_v3 σ_2 h
def f_X4_moveBy_48 (rec3 : Nat → Nat → Nat → Nat → Int32 → Int32 → Int32 → kf_St → Option kf_St) (v0 : Nat) (v1 : Nat) (v2 : Nat) (v3 : Nat) (v4 : Int32) (v5 : Int32) (v6 : Int32) (v7 : Int32) (s0 : Int32) (σ : kf_St) : Option kf_St :=
  if s0 = 0 then
    f_X4_moveBy_69 rec3 v0 v1 v2 v3 v4 v5 v6 (kf_rf v0 2) v6 (-v7) σ
  else
    f_X4_moveBy_69 rec3 v0 v1 v2 v3 v4 v5 v6 (kf_rf v0 2) v6 v7 σ
set_option maxRecDepth 100000 in
set_option maxHeartbeats 4000000 in
theorem b_X4_moveBy_48 {X : kf_X} {G : kf_G} {rec3 : Nat → Nat → Nat → Nat → Int32 → Int32 → Int32 → kf_St → Option kf_St} {q : kf_St} (E : kf_ok X G cX4_moveBy RX4 9 none (4)) (hty : kf_wt G) (hrec3 : ∀ (v0 : Nat) (v1 : Nat) (v2 : Nat) (v3 : Nat) (v4 : Int32) (v5 : Int32) (v6 : Int32) (k_v0 : kf_kd G v0 = 5) (k_v1 : kf_kd G v1 = 3) (k_v2 : kf_kd G v2 = 2) (k_v3 : kf_kd G v3 = 50) (σ : kf_St), rec3 v0 v1 v2 v3 v4 v5 v6 σ = some q → kf_WA X G 9 (kf_Q X G none q) 3 [(0, .ref (kf_ad G v0)), (1, .ref (kf_ad G v1)), (2, .ref (kf_ad G v2)), (3, .ref (kf_ad G v3)), (4, .int v4), (5, .int v5), (6, .int v6)] [] σ) (v0 : Nat) (v1 : Nat) (v2 : Nat) (v3 : Nat) (v4 : Int32) (v5 : Int32) (v6 : Int32) (v7 : Int32) (s0 : Int32) (k_v0 : kf_kd G v0 = 5) (k_v1 : kf_kd G v1 = 3) (k_v2 : kf_kd G v2 = 2) (k_v3 : kf_kd G v3 = 50) (σ : kf_St) (h : f_X4_moveBy_48 rec3 v0 v1 v2 v3 v4 v5 v6 v7 s0 σ = some q) : kf_WA X G 9 (kf_Q X G none q) 48 [(0, .ref (kf_ad G v0)), (1, .ref (kf_ad G v1)), (2, .ref (kf_ad G v2)), (3, .ref (kf_ad G v3)), (4, .int v4), (5, .int v5), (6, .int v6), (7, .int v7)] [.int s0] σ := by
  unfold f_X4_moveBy_48 at h
  refine wa_istore (lv' := [(8, .int s0), (0, .ref (kf_ad G v0)), (1, .ref (kf_ad G v1)), (2, .ref (kf_ad G v2)), (3, .ref (kf_ad G v3)), (4, .int v4), (5, .int v5), (6, .int v6), (7, .int v7)]) (by decide) rfl E d_X4_moveBy_48 ?_
  refine wa_aload_n 1 rfl E d_X4_moveBy_50 ?_
  refine wa_getR fl_X4_21 k_v0 rfl E d_X4_moveBy_51 ?_
  refine wa_iload 7 rfl E d_X4_moveBy_54 ?_
  refine wa_iload 0 rfl E d_X4_moveBy_56 ?_
  refine wa_if_eq E d_X4_moveBy_58 (fun c_1 => ?_) (fun c_1 => ?_)
  · replace h := kf_ift c_1 h
    refine wa_iload 8 rfl E d_X4_moveBy_66 ?_
    refine wa_ineg E d_X4_moveBy_68 ?_
    refine wa_sub [1, 2, 3, 4, 5, 6, 7] rfl ?_
    exact b_X4_moveBy_69 E hty hrec3 v0 v1 v2 v3 v4 v5 v6 (kf_rf v0 2) v6 (-v7) k_v0 k_v1 k_v2 k_v3 (kf_wtf hty 2 49 k_v0 (by decide) rfl) σ h
  · replace h := kf_iff c_1 h
    refine wa_iload 8 rfl E d_X4_moveBy_61 ?_
    refine wa_goto E d_X4_moveBy_63 ?_
    refine wa_sub [1, 2, 3, 4, 5, 6, 7] rfl ?_
    exact b_X4_moveBy_69 E hty hrec3 v0 v1 v2 v3 v4 v5 v6 (kf_rf v0 2) v6 v7 k_v0 k_v1 k_v2 k_v3 (kf_wtf hty 2 49 k_v0 (by decide) rfl) σ h
def f_X4_moveBy_3_s (rec3 : Nat → Nat → Nat → Nat → Int32 → Int32 → Int32 → kf_St → Option kf_St) (v0 : Nat) (v1 : Nat) (v2 : Nat) (v3 : Nat) (v4 : Int32) (v5 : Int32) (v6 : Int32) (σ : kf_St) : Option kf_St :=
  if 4 ≤ v6 then
    f_X4_moveBy_79 kf_F v0 v2 0 σ
  else
    (f_X4_stepOf v0 v1 v2 v3 v4 v6 v5 σ).bind fun q_2 =>
    if kf_ix v6 (kf_ln (kf_rf v2 0)) = true then
    if kf_ix ((4 * v4) + v6) (kf_ln v3) = true then
    if (q_2.2.1 v3 (Int32.toNatClampNeg ((4 * v4) + v6))) ≤ (q_2.2.1 (kf_rf v2 0) (Int32.toNatClampNeg v6)) then
      f_X4_moveBy_48 rec3 v0 v1 v2 v3 v4 v5 v6 q_2.1 0 q_2.2
    else
      f_X4_moveBy_48 rec3 v0 v1 v2 v3 v4 v5 v6 q_2.1 1 q_2.2
    else none
    else none
def f_X4_moveBy_3 : Nat → Nat → Nat → Nat → Nat → Int32 → Int32 → Int32 → kf_St → Option kf_St
  | 0, _, _, _, _, _, _, _, _ => none
  | n + 1, v0, v1, v2, v3, v4, v5, v6, σ => f_X4_moveBy_3_s (f_X4_moveBy_3 n) v0 v1 v2 v3 v4 v5 v6 σ
set_option maxRecDepth 100000 in
set_option maxHeartbeats 4000000 in
theorem b_X4_moveBy_3_s {X : kf_X} {G : kf_G} (rec3 : Nat → Nat → Nat → Nat → Int32 → Int32 → Int32 → kf_St → Option kf_St) {q : kf_St} (E : kf_ok X G cX4_moveBy RX4 9 none (4)) (hty : kf_wt G) (hrec3 : ∀ (v0 : Nat) (v1 : Nat) (v2 : Nat) (v3 : Nat) (v4 : Int32) (v5 : Int32) (v6 : Int32) (k_v0 : kf_kd G v0 = 5) (k_v1 : kf_kd G v1 = 3) (k_v2 : kf_kd G v2 = 2) (k_v3 : kf_kd G v3 = 50) (σ : kf_St), rec3 v0 v1 v2 v3 v4 v5 v6 σ = some q → kf_WA X G 9 (kf_Q X G none q) 3 [(0, .ref (kf_ad G v0)), (1, .ref (kf_ad G v1)), (2, .ref (kf_ad G v2)), (3, .ref (kf_ad G v3)), (4, .int v4), (5, .int v5), (6, .int v6)] [] σ) (v0 : Nat) (v1 : Nat) (v2 : Nat) (v3 : Nat) (v4 : Int32) (v5 : Int32) (v6 : Int32) (k_v0 : kf_kd G v0 = 5) (k_v1 : kf_kd G v1 = 3) (k_v2 : kf_kd G v2 = 2) (k_v3 : kf_kd G v3 = 50) (σ : kf_St) (h : f_X4_moveBy_3_s rec3 v0 v1 v2 v3 v4 v5 v6 σ = some q) : kf_WA X G 9 (kf_Q X G none q) 3 [(0, .ref (kf_ad G v0)), (1, .ref (kf_ad G v1)), (2, .ref (kf_ad G v2)), (3, .ref (kf_ad G v3)), (4, .int v4), (5, .int v5), (6, .int v6)] [] σ := by
  unfold f_X4_moveBy_3_s at h
  refine wa_iload 6 rfl E d_X4_moveBy_3 ?_
  refine wa_iconst 4 ic_4 E d_X4_moveBy_5 ?_
  refine wa_icmp_ge E d_X4_moveBy_6 (fun c_1 => ?_) (fun c_1 => ?_)
  · replace h := kf_ift c_1 h
    refine wa_iconst 0 ic_0 E d_X4_moveBy_76 ?_
    refine wa_istore (lv' := [(6, .int 0), (0, .ref (kf_ad G v0)), (1, .ref (kf_ad G v1)), (2, .ref (kf_ad G v2)), (3, .ref (kf_ad G v3)), (4, .int v4), (5, .int v5)]) (by decide) rfl E d_X4_moveBy_77 ?_
    refine wa_sub [1, 3, 0] rfl ?_
    exact b_X4_moveBy_79 E hty kf_F v0 v2 0 k_v0 k_v2 σ h
  · replace h := kf_iff c_1 h
    refine wa_aload_n 0 rfl E d_X4_moveBy_9 ?_
    refine wa_aload_n 1 rfl E d_X4_moveBy_10 ?_
    refine wa_aload_n 2 rfl E d_X4_moveBy_11 ?_
    refine wa_aload_n 3 rfl E d_X4_moveBy_12 ?_
    refine wa_iload 4 rfl E d_X4_moveBy_13 ?_
    refine wa_iload 6 rfl E d_X4_moveBy_15 ?_
    refine wa_iload 5 rfl E d_X4_moveBy_17 ?_
    obtain ⟨q_2, hq_2, h⟩ := kf_bd h
    refine wa_callV (st2 := [.int q_2.1]) (c_X4_stepOf hty v0 v1 v2 v3 v4 v6 v5 k_v0 k_v1 k_v2 k_v3 σ hq_2) mv_X4_stepOf ml_X4_76 k_v0 rfl (Nat.le_of_ble_eq_true rfl) rfl (Nat.le_of_ble_eq_true rfl) E d_X4_moveBy_19 rfl ?_
    refine wa_istore (lv' := [(7, .int q_2.1), (0, .ref (kf_ad G v0)), (1, .ref (kf_ad G v1)), (2, .ref (kf_ad G v2)), (3, .ref (kf_ad G v3)), (4, .int v4), (5, .int v5), (6, .int v6)]) (by decide) rfl E d_X4_moveBy_22 ?_
    refine wa_aload_n 3 rfl E d_X4_moveBy_24 ?_
    refine wa_getR fl_X4_36 k_v2 rfl E d_X4_moveBy_25 ?_
    refine wa_iload 7 rfl E d_X4_moveBy_28 ?_
    obtain ⟨g_3, h⟩ := kf_gd h
    refine wa_iald (kf_wtf hty 0 49 k_v2 (by decide) rfl) g_3 E d_X4_moveBy_30 ?_
    refine wa_aload_n 4 rfl E d_X4_moveBy_31 ?_
    refine wa_iconst 4 ic_4 E d_X4_moveBy_32 ?_
    refine wa_iload 5 rfl E d_X4_moveBy_33 ?_
    refine wa_imul E d_X4_moveBy_35 ?_
    refine wa_iload 7 rfl E d_X4_moveBy_36 ?_
    refine wa_iadd E d_X4_moveBy_38 ?_
    obtain ⟨g_4, h⟩ := kf_gd h
    refine wa_iald k_v3 g_4 E d_X4_moveBy_39 ?_
    refine wa_icmp_ge E d_X4_moveBy_40 (fun c_5 => ?_) (fun c_5 => ?_)
    · replace h := kf_ift c_5 h
      refine wa_iconst 0 ic_0 E d_X4_moveBy_47 ?_
      refine wa_sub [1, 2, 3, 4, 5, 6, 7, 0] rfl ?_
      exact b_X4_moveBy_48 E hty hrec3 v0 v1 v2 v3 v4 v5 v6 q_2.1 0 k_v0 k_v1 k_v2 k_v3 q_2.2 h
    · replace h := kf_iff c_5 h
      refine wa_iconst 1 ic_1 E d_X4_moveBy_43 ?_
      refine wa_goto E d_X4_moveBy_44 ?_
      refine wa_sub [1, 2, 3, 4, 5, 6, 7, 0] rfl ?_
      exact b_X4_moveBy_48 E hty hrec3 v0 v1 v2 v3 v4 v5 v6 q_2.1 1 k_v0 k_v1 k_v2 k_v3 q_2.2 h
theorem b_X4_moveBy_3 {X : kf_X} {G : kf_G} {q : kf_St} (E : kf_ok X G cX4_moveBy RX4 9 none (4)) (hty : kf_wt G) : ∀ (N : Nat) (v0 : Nat) (v1 : Nat) (v2 : Nat) (v3 : Nat) (v4 : Int32) (v5 : Int32) (v6 : Int32) (k_v0 : kf_kd G v0 = 5) (k_v1 : kf_kd G v1 = 3) (k_v2 : kf_kd G v2 = 2) (k_v3 : kf_kd G v3 = 50) (σ : kf_St) (_ : f_X4_moveBy_3 N v0 v1 v2 v3 v4 v5 v6 σ = some q), kf_WA X G 9 (kf_Q X G none q) 3 [(0, .ref (kf_ad G v0)), (1, .ref (kf_ad G v1)), (2, .ref (kf_ad G v2)), (3, .ref (kf_ad G v3)), (4, .int v4), (5, .int v5), (6, .int v6)] [] σ
  | 0, _, _, _, _, _, _, _, _, _, _, _, _, h => by cases h
  | N + 1, v0, v1, v2, v3, v4, v5, v6, k_v0, k_v1, k_v2, k_v3, σ, h => b_X4_moveBy_3_s _ E hty (b_X4_moveBy_3 E hty N) v0 v1 v2 v3 v4 v5 v6 k_v0 k_v1 k_v2 k_v3 σ h
def f_X4_moveBy (v0 : Nat) (v1 : Nat) (v2 : Nat) (v3 : Nat) (v4 : Int32) (v5 : Int32) (σ : kf_St) : Option kf_St :=
  f_X4_moveBy_3 kf_F v0 v1 v2 v3 v4 v5 0 σ
set_option maxRecDepth 100000 in
set_option maxHeartbeats 4000000 in
theorem c_X4_moveBy {G : kf_G} (hty : kf_wt G) (v0 : Nat) (v1 : Nat) (v2 : Nat) (v3 : Nat) (v4 : Int32) (v5 : Int32) (k_v0 : kf_kd G v0 = 5) (k_v1 : kf_kd G v1 = 3) (k_v2 : kf_kd G v2 = 2) (k_v3 : kf_kd G v3 = 50) (σ : kf_St) {q : kf_St} (h : f_X4_moveBy v0 v1 v2 v3 v4 v5 σ = some q) : kf_Ct (4) yX4_moveBy cX4_moveBy 9 none G [.ref (kf_ad G v0), .ref (kf_ad G v1), .ref (kf_ad G v2), .ref (kf_ad G v3), .int v4, .int v5] σ none q := by
  refine kf_Ct.of hty.1 (lv := [(0, .ref (kf_ad G v0)), (1, .ref (kf_ad G v1)), (2, .ref (kf_ad G v2)), (3, .ref (kf_ad G v3)), (4, .int v4), (5, .int v5)]) (by decide +kernel) rfl (Nat.le_of_ble_eq_true rfl) (fun X E => ?_)
  unfold f_X4_moveBy at h
  refine wa_iconst 0 ic_0 E d_X4_moveBy_0 ?_
  refine wa_istore (lv' := [(6, .int 0), (0, .ref (kf_ad G v0)), (1, .ref (kf_ad G v1)), (2, .ref (kf_ad G v2)), (3, .ref (kf_ad G v3)), (4, .int v4), (5, .int v5)]) (by decide) rfl E d_X4_moveBy_1 ?_
  refine wa_sub [1, 2, 3, 4, 5, 6, 0] rfl ?_
  exact b_X4_moveBy_3 E hty kf_F v0 v1 v2 v3 v4 v5 0 k_v0 k_v1 k_v2 k_v3 σ h
/-! X4_liftBy -/
theorem d_X4_liftBy_0 : kf_dq cX4_liftBy 0 1 1 (.aload_n 0) := ⟨by decide +kernel, rfl⟩
theorem d_X4_liftBy_1 : kf_dq cX4_liftBy 1 2 1 (.aload_n 1) := ⟨by decide +kernel, rfl⟩
theorem d_X4_liftBy_2 : kf_dq cX4_liftBy 2 3 1 (.iload_n 2) := ⟨by decide +kernel, rfl⟩
theorem d_X4_liftBy_3 : kf_dq cX4_liftBy 3 4 1 (.iload_n 3) := ⟨by decide +kernel, rfl⟩
theorem d_X4_liftBy_4 : kf_dq cX4_liftBy 4 7 3 (.invokevirtual 80) := ⟨by decide +kernel, rfl⟩
theorem d_X4_liftBy_7 : kf_dq cX4_liftBy 7 9 2 (.istore 4) := ⟨by decide +kernel, rfl⟩
theorem d_X4_liftBy_9 : kf_dq cX4_liftBy 9 10 1 (.aload_n 1) := ⟨by decide +kernel, rfl⟩
theorem d_X4_liftBy_10 : kf_dq cX4_liftBy 10 12 2 (.ldc 84) := ⟨by decide +kernel, rfl⟩
theorem d_X4_liftBy_12 : kf_dq cX4_liftBy 12 13 1 (.aload_n 1) := ⟨by decide +kernel, rfl⟩
theorem d_X4_liftBy_13 : kf_dq cX4_liftBy 13 16 3 (.getfield 85) := ⟨by decide +kernel, rfl⟩
theorem d_X4_liftBy_16 : kf_dq cX4_liftBy 16 18 2 (.iload 4) := ⟨by decide +kernel, rfl⟩
theorem d_X4_liftBy_18 : kf_dq cX4_liftBy 18 19 1 (.iadd) := ⟨by decide +kernel, rfl⟩
theorem d_X4_liftBy_19 : kf_dq cX4_liftBy 19 22 3 (.invokestatic 59) := ⟨by decide +kernel, rfl⟩
theorem d_X4_liftBy_22 : kf_dq cX4_liftBy 22 25 3 (.putfield 85) := ⟨by decide +kernel, rfl⟩
theorem d_X4_liftBy_25 : kf_dq cX4_liftBy 25 26 1 (.aload_n 0) := ⟨by decide +kernel, rfl⟩
theorem d_X4_liftBy_26 : kf_dq cX4_liftBy 26 27 1 (.aload_n 0) := ⟨by decide +kernel, rfl⟩
theorem d_X4_liftBy_27 : kf_dq cX4_liftBy 27 30 3 (.getfield 9) := ⟨by decide +kernel, rfl⟩
theorem d_X4_liftBy_30 : kf_dq cX4_liftBy 30 33 3 (.getfield 88) := ⟨by decide +kernel, rfl⟩
theorem d_X4_liftBy_33 : kf_dq cX4_liftBy 33 34 1 (.aload_n 1) := ⟨by decide +kernel, rfl⟩
theorem d_X4_liftBy_34 : kf_dq cX4_liftBy 34 35 1 (.aload_n 0) := ⟨by decide +kernel, rfl⟩
theorem d_X4_liftBy_35 : kf_dq cX4_liftBy 35 38 3 (.getfield 9) := ⟨by decide +kernel, rfl⟩
theorem d_X4_liftBy_38 : kf_dq cX4_liftBy 38 41 3 (.getfield 91) := ⟨by decide +kernel, rfl⟩
theorem d_X4_liftBy_41 : kf_dq cX4_liftBy 41 42 1 (.iload_n 2) := ⟨by decide +kernel, rfl⟩
theorem d_X4_liftBy_42 : kf_dq cX4_liftBy 42 43 1 (.iload_n 3) := ⟨by decide +kernel, rfl⟩
theorem d_X4_liftBy_43 : kf_dq cX4_liftBy 43 46 3 (.invokevirtual 94) := ⟨by decide +kernel, rfl⟩
theorem d_X4_liftBy_46 : kf_dq cX4_liftBy 46 47 1 (.aload_n 1) := ⟨by decide +kernel, rfl⟩
theorem d_X4_liftBy_47 : kf_dq cX4_liftBy 47 48 1 (.dup) := ⟨by decide +kernel, rfl⟩
theorem d_X4_liftBy_48 : kf_dq cX4_liftBy 48 51 3 (.getfield 24) := ⟨by decide +kernel, rfl⟩
theorem d_X4_liftBy_51 : kf_dq cX4_liftBy 51 52 1 (.iconst 1) := ⟨by decide +kernel, rfl⟩
theorem d_X4_liftBy_52 : kf_dq cX4_liftBy 52 53 1 (.iadd) := ⟨by decide +kernel, rfl⟩
theorem d_X4_liftBy_53 : kf_dq cX4_liftBy 53 56 3 (.putfield 24) := ⟨by decide +kernel, rfl⟩
theorem d_X4_liftBy_56 : kf_dq cX4_liftBy 56 57 1 (.aload_n 1) := ⟨by decide +kernel, rfl⟩
theorem d_X4_liftBy_57 : kf_dq cX4_liftBy 57 58 1 (.iconst 1) := ⟨by decide +kernel, rfl⟩
theorem d_X4_liftBy_58 : kf_dq cX4_liftBy 58 61 3 (.putfield 98) := ⟨by decide +kernel, rfl⟩
theorem d_X4_liftBy_61 : kf_dq cX4_liftBy 61 62 1 (.return_) := ⟨by decide +kernel, rfl⟩
def f_X4_liftBy (v0 : Nat) (v1 : Nat) (v2 : Int32) (v3 : Int32) (σ : kf_St) : Option kf_St :=
  (f_X4_payOf v0 v1 v2 v3 σ).bind fun q_1 =>
  kf_lt (if ((q_1.2.1 v1 4) + q_1.1) < 999999 then ((q_1.2.1 v1 4) + q_1.1) else 999999) fun x_2 =>
  kf_lt (kf_wi q_1.2 v1 4 x_2) fun σ_3 =>
  (f_X4_moveBy v0 (kf_rf (kf_rf v0 0) 14) v1 (kf_rf (kf_rf v0 0) 9) v2 v3 σ_3).bind fun q_4 =>
  kf_lt (kf_wi q_4 v1 1 ((q_4.1 v1 1) + 1)) fun σ_5 =>
  kf_lt (kf_wi σ_5 v1 5 1) fun σ_6 =>
  some σ_6
set_option maxRecDepth 100000 in
set_option maxHeartbeats 4000000 in
theorem c_X4_liftBy {G : kf_G} (hty : kf_wt G) (v0 : Nat) (v1 : Nat) (v2 : Int32) (v3 : Int32) (k_v0 : kf_kd G v0 = 5) (k_v1 : kf_kd G v1 = 2) (σ : kf_St) {q : kf_St} (h : f_X4_liftBy v0 v1 v2 v3 σ = some q) : kf_Ct (5) yX4_liftBy cX4_liftBy 5 none G [.ref (kf_ad G v0), .ref (kf_ad G v1), .int v2, .int v3] σ none q := by
  refine kf_Ct.of hty.1 (lv := [(0, .ref (kf_ad G v0)), (1, .ref (kf_ad G v1)), (2, .int v2), (3, .int v3)]) (by decide +kernel) rfl (Nat.le_of_ble_eq_true rfl) (fun X E => ?_)
  unfold f_X4_liftBy at h
  refine wa_aload_n 0 rfl E d_X4_liftBy_0 ?_
  refine wa_aload_n 1 rfl E d_X4_liftBy_1 ?_
  refine wa_iload_n 2 rfl E d_X4_liftBy_2 ?_
  refine wa_iload_n 3 rfl E d_X4_liftBy_3 ?_
  obtain ⟨q_1, hq_1, h⟩ := kf_bd h
  refine wa_callV (st2 := [.int q_1.1]) (c_X4_payOf hty v0 v1 v2 v3 k_v0 k_v1 σ hq_1) mv_X4_payOf ml_X4_80 k_v0 rfl (Nat.le_of_ble_eq_true rfl) rfl (Nat.le_of_ble_eq_true rfl) E d_X4_liftBy_4 rfl ?_
  refine wa_istore (lv' := [(4, .int q_1.1), (0, .ref (kf_ad G v0)), (1, .ref (kf_ad G v1)), (2, .int v2), (3, .int v3)]) (by decide) rfl E d_X4_liftBy_7 ?_
  refine wa_aload_n 2 rfl E d_X4_liftBy_9 ?_
  refine wa_ldc cst_X4_84 E d_X4_liftBy_10 ?_
  refine wa_aload_n 2 rfl E d_X4_liftBy_12 ?_
  refine wa_getI fl_X4_85 k_v1 rfl E d_X4_liftBy_13 ?_
  refine wa_iload 0 rfl E d_X4_liftBy_16 ?_
  refine wa_iadd E d_X4_liftBy_18 ?_
  refine wa_mmin ml_X4_59 ms_min mini mc_min (Nat.le_of_ble_eq_true rfl) (Nat.le_of_ble_eq_true rfl) E d_X4_liftBy_19 ?_
  obtain ⟨x_2, ex_2, h⟩ := kf_lte h
  refine wa_topi ex_2 ?_
  obtain ⟨σ_3, eσ_3, h⟩ := kf_lte h
  refine wa_putI fl_X4_85 fp_1_4 k_v1 rfl (by decide) rfl rfl E d_X4_liftBy_22 eσ_3 ?_
  refine wa_aload_n 1 rfl E d_X4_liftBy_25 ?_
  refine wa_aload_n 1 rfl E d_X4_liftBy_26 ?_
  refine wa_getR fl_X4_9 k_v0 rfl E d_X4_liftBy_27 ?_
  refine wa_getR fl_X4_88 (kf_wtf hty 0 10 k_v0 (by decide) rfl) rfl E d_X4_liftBy_30 ?_
  refine wa_aload_n 2 rfl E d_X4_liftBy_33 ?_
  refine wa_aload_n 1 rfl E d_X4_liftBy_34 ?_
  refine wa_getR fl_X4_9 k_v0 rfl E d_X4_liftBy_35 ?_
  refine wa_getR fl_X4_91 (kf_wtf hty 0 10 k_v0 (by decide) rfl) rfl E d_X4_liftBy_38 ?_
  refine wa_iload_n 3 rfl E d_X4_liftBy_41 ?_
  refine wa_iload_n 4 rfl E d_X4_liftBy_42 ?_
  obtain ⟨q_4, hq_4, h⟩ := kf_bd h
  refine wa_callV (st2 := []) (c_X4_moveBy hty v0 (kf_rf (kf_rf v0 0) 14) v1 (kf_rf (kf_rf v0 0) 9) v2 v3 k_v0 (kf_wtf hty 14 2 (kf_wtf hty 0 10 k_v0 (by decide) rfl) (by decide) rfl) k_v1 (kf_wtf hty 9 49 (kf_wtf hty 0 10 k_v0 (by decide) rfl) (by decide) rfl) σ_3 hq_4) mv_X4_moveBy ml_X4_94 k_v0 rfl (Nat.le_of_ble_eq_true rfl) rfl (Nat.le_of_ble_eq_true rfl) E d_X4_liftBy_43 rfl ?_
  refine wa_aload_n 2 rfl E d_X4_liftBy_46 ?_
  refine wa_dup rfl E d_X4_liftBy_47 ?_
  refine wa_getI fl_X4_24 k_v1 rfl E d_X4_liftBy_48 ?_
  refine wa_iconst 1 ic_1 E d_X4_liftBy_51 ?_
  refine wa_iadd E d_X4_liftBy_52 ?_
  obtain ⟨σ_5, eσ_5, h⟩ := kf_lte h
  refine wa_putI fl_X4_24 fp_1_1 k_v1 rfl (by decide) rfl rfl E d_X4_liftBy_53 eσ_5 ?_
  refine wa_aload_n 2 rfl E d_X4_liftBy_56 ?_
  refine wa_iconst 1 ic_1 E d_X4_liftBy_57 ?_
  obtain ⟨σ_6, eσ_6, h⟩ := kf_lte h
  refine wa_putI fl_X4_98 fp_1_5 k_v1 rfl (by decide) kf_z1 kf_f1 E d_X4_liftBy_58 eσ_6 ?_
  cases h
  exact wa_vret E d_X4_liftBy_61
/-! X10_mixed -/
theorem d_X10_mixed_0 : kf_dq cX10_mixed 0 1 1 (.iload_n 0) := ⟨by decide +kernel, rfl⟩
theorem d_X10_mixed_1 : kf_dq cX10_mixed 1 2 1 (.iload_n 1) := ⟨by decide +kernel, rfl⟩
theorem d_X10_mixed_2 : kf_dq cX10_mixed 2 3 1 (.ixor) := ⟨by decide +kernel, rfl⟩
theorem d_X10_mixed_3 : kf_dq cX10_mixed 3 5 2 (.ldc 110) := ⟨by decide +kernel, rfl⟩
theorem d_X10_mixed_5 : kf_dq cX10_mixed 5 6 1 (.imul) := ⟨by decide +kernel, rfl⟩
theorem d_X10_mixed_6 : kf_dq cX10_mixed 6 9 3 (.sipush 12345) := ⟨by decide +kernel, rfl⟩
theorem d_X10_mixed_9 : kf_dq cX10_mixed 9 10 1 (.iadd) := ⟨by decide +kernel, rfl⟩
theorem d_X10_mixed_10 : kf_dq cX10_mixed 10 11 1 (.istore_n 2) := ⟨by decide +kernel, rfl⟩
theorem d_X10_mixed_11 : kf_dq cX10_mixed 11 12 1 (.iload_n 2) := ⟨by decide +kernel, rfl⟩
theorem d_X10_mixed_12 : kf_dq cX10_mixed 12 13 1 (.iload_n 2) := ⟨by decide +kernel, rfl⟩
theorem d_X10_mixed_13 : kf_dq cX10_mixed 13 15 2 (.bipush 15) := ⟨by decide +kernel, rfl⟩
theorem d_X10_mixed_15 : kf_dq cX10_mixed 15 16 1 (.iushr) := ⟨by decide +kernel, rfl⟩
theorem d_X10_mixed_16 : kf_dq cX10_mixed 16 17 1 (.ixor) := ⟨by decide +kernel, rfl⟩
theorem d_X10_mixed_17 : kf_dq cX10_mixed 17 18 1 (.ireturn) := ⟨by decide +kernel, rfl⟩
def f_X10_mixed (v0 : Int32) (v1 : Int32) (σ : kf_St) : Option (Int32 × kf_St) :=
  kf_lt ((((v0 ^^^ v1) * 1103515245) + 12345)) fun v2_1 =>
  some ((v2_1 ^^^ ((Int32.toUInt32 v2_1) >>> ((Int32.toUInt32 15) &&& Int32.toUInt32 31)).toInt32), σ)
set_option maxRecDepth 100000 in
set_option maxHeartbeats 4000000 in
theorem c_X10_mixed {G : kf_G} (hty : kf_wt G) (v0 : Int32) (v1 : Int32) (σ : kf_St) {q : (Int32 × kf_St)} (h : f_X10_mixed v0 v1 σ = some q) : kf_Ct (1) yX10_mixed cX10_mixed 3 (some .int) G [.int v0, .int v1] σ (some (.int q.1)) q.2 := by
  refine kf_Ct.of hty.1 (lv := [(0, .int v0), (1, .int v1)]) (by decide +kernel) rfl (Nat.le_of_ble_eq_true rfl) (fun X E => ?_)
  unfold f_X10_mixed at h
  refine wa_iload_n 0 rfl E d_X10_mixed_0 ?_
  refine wa_iload_n 1 rfl E d_X10_mixed_1 ?_
  refine wa_ixor E d_X10_mixed_2 ?_
  refine wa_ldc cst_X10_110 E d_X10_mixed_3 ?_
  refine wa_imul E d_X10_mixed_5 ?_
  refine wa_sipush 12345 sp_12345 E d_X10_mixed_6 ?_
  refine wa_iadd E d_X10_mixed_9 ?_
  obtain ⟨v2_1, ev2_1, h⟩ := kf_lte h
  refine wa_topi ev2_1 ?_
  refine wa_istore_n (lv' := [(2, .int v2_1), (0, .int v0), (1, .int v1)]) rfl (by decide) rfl E d_X10_mixed_10 ?_
  refine wa_iload_n 0 rfl E d_X10_mixed_11 ?_
  refine wa_iload_n 0 rfl E d_X10_mixed_12 ?_
  refine wa_bipush 15 bp_15 E d_X10_mixed_13 ?_
  refine wa_iushr E d_X10_mixed_15 ?_
  refine wa_ixor E d_X10_mixed_16 ?_
  cases h
  exact wa_iret E d_X10_mixed_17
/-! X10_lot -/
theorem d_X10_lot_0 : kf_dq cX10_lot 0 1 1 (.iload_n 1) := ⟨by decide +kernel, rfl⟩
theorem d_X10_lot_1 : kf_dq cX10_lot 1 4 3 (.sipush 151) := ⟨by decide +kernel, rfl⟩
theorem d_X10_lot_4 : kf_dq cX10_lot 4 7 3 (.invokestatic 106) := ⟨by decide +kernel, rfl⟩
theorem d_X10_lot_7 : kf_dq cX10_lot 7 8 1 (.iload_n 2) := ⟨by decide +kernel, rfl⟩
theorem d_X10_lot_8 : kf_dq cX10_lot 8 11 3 (.invokestatic 106) := ⟨by decide +kernel, rfl⟩
theorem d_X10_lot_11 : kf_dq cX10_lot 11 12 1 (.istore_n 3) := ⟨by decide +kernel, rfl⟩
theorem d_X10_lot_12 : kf_dq cX10_lot 12 13 1 (.iload_n 0) := ⟨by decide +kernel, rfl⟩
theorem d_X10_lot_13 : kf_dj cX10_lot 13 16 24 (.ifCond .le) := ⟨11, by decide +kernel, rfl, by decide⟩
theorem d_X10_lot_16 : kf_dq cX10_lot 16 17 1 (.iload_n 3) := ⟨by decide +kernel, rfl⟩
theorem d_X10_lot_17 : kf_dq cX10_lot 17 18 1 (.iconst 1) := ⟨by decide +kernel, rfl⟩
theorem d_X10_lot_18 : kf_dq cX10_lot 18 19 1 (.iushr) := ⟨by decide +kernel, rfl⟩
theorem d_X10_lot_19 : kf_dq cX10_lot 19 20 1 (.iload_n 0) := ⟨by decide +kernel, rfl⟩
theorem d_X10_lot_20 : kf_dq cX10_lot 20 21 1 (.irem) := ⟨by decide +kernel, rfl⟩
theorem d_X10_lot_21 : kf_dj cX10_lot 21 24 25 .goto := ⟨4, by decide +kernel, rfl, by decide⟩
theorem d_X10_lot_24 : kf_dq cX10_lot 24 25 1 (.iconst 0) := ⟨by decide +kernel, rfl⟩
theorem d_X10_lot_25 : kf_dq cX10_lot 25 26 1 (.ireturn) := ⟨by decide +kernel, rfl⟩
def f_X10_lot (v0 : Int32) (v1 : Int32) (v2 : Int32) (σ : kf_St) : Option (Int32 × kf_St) :=
  (f_X10_mixed v1 151 σ).bind fun q_1 =>
  (f_X10_mixed q_1.1 v2 q_1.2).bind fun q_2 =>
  if v0 ≤ 0 then
    some (0, q_2.2)
  else
    if v0 = 0 then none else
    some ((((Int32.toUInt32 q_2.1) >>> ((Int32.toUInt32 1) &&& Int32.toUInt32 31)).toInt32 - ((Int32.toUInt32 q_2.1) >>> ((Int32.toUInt32 1) &&& Int32.toUInt32 31)).toInt32 / v0 * v0), q_2.2)
set_option maxRecDepth 100000 in
set_option maxHeartbeats 4000000 in
theorem c_X10_lot {G : kf_G} (hty : kf_wt G) (v0 : Int32) (v1 : Int32) (v2 : Int32) (σ : kf_St) {q : (Int32 × kf_St)} (h : f_X10_lot v0 v1 v2 σ = some q) : kf_Ct (2) yX10_lot cX10_lot 4 (some .int) G [.int v0, .int v1, .int v2] σ (some (.int q.1)) q.2 := by
  refine kf_Ct.of hty.1 (lv := [(0, .int v0), (1, .int v1), (2, .int v2)]) (by decide +kernel) rfl (Nat.le_of_ble_eq_true rfl) (fun X E => ?_)
  unfold f_X10_lot at h
  refine wa_iload_n 1 rfl E d_X10_lot_0 ?_
  refine wa_sipush 151 sp_151 E d_X10_lot_1 ?_
  obtain ⟨q_1, hq_1, h⟩ := kf_bd h
  refine wa_callS (st2 := [.int q_1.1]) (c_X10_mixed hty v1 151 σ hq_1) mt_X10_mixed ml_X10_106 rfl (Nat.le_of_ble_eq_true rfl) rfl (Nat.le_of_ble_eq_true rfl) E d_X10_lot_4 rfl ?_
  refine wa_iload_n 2 rfl E d_X10_lot_7 ?_
  obtain ⟨q_2, hq_2, h⟩ := kf_bd h
  refine wa_callS (st2 := [.int q_2.1]) (c_X10_mixed hty q_1.1 v2 q_1.2 hq_2) mt_X10_mixed ml_X10_106 rfl (Nat.le_of_ble_eq_true rfl) rfl (Nat.le_of_ble_eq_true rfl) E d_X10_lot_8 rfl ?_
  refine wa_istore_n (lv' := [(3, .int q_2.1), (0, .int v0), (1, .int v1), (2, .int v2)]) rfl (by decide) rfl E d_X10_lot_11 ?_
  refine wa_iload_n 1 rfl E d_X10_lot_12 ?_
  refine wa_if_le E d_X10_lot_13 (fun c_3 => ?_) (fun c_3 => ?_)
  · replace h := kf_ift c_3 h
    refine wa_iconst 0 ic_0 E d_X10_lot_24 ?_
    cases h
    exact wa_iret E d_X10_lot_25
  · replace h := kf_iff c_3 h
    refine wa_iload_n 0 rfl E d_X10_lot_16 ?_
    refine wa_iconst 1 ic_1 E d_X10_lot_17 ?_
    refine wa_iushr E d_X10_lot_18 ?_
    refine wa_iload_n 1 rfl E d_X10_lot_19 ?_
    obtain ⟨g_4, h⟩ := kf_gn h
    refine wa_irem g_4 E d_X10_lot_20 ?_
    refine wa_goto E d_X10_lot_21 ?_
    cases h
    exact wa_iret E d_X10_lot_25
/-! X10_hasWind -/
theorem d_X10_hasWind_0 : kf_dq cX10_hasWind 0 2 2 (.bipush 100) := ⟨by decide +kernel, rfl⟩
theorem d_X10_hasWind_2 : kf_dq cX10_hasWind 2 3 1 (.iload_n 1) := ⟨by decide +kernel, rfl⟩
theorem d_X10_hasWind_3 : kf_dq cX10_hasWind 3 5 2 (.bipush 16) := ⟨by decide +kernel, rfl⟩
theorem d_X10_hasWind_5 : kf_dq cX10_hasWind 5 6 1 (.iload_n 2) := ⟨by decide +kernel, rfl⟩
theorem d_X10_hasWind_6 : kf_dq cX10_hasWind 6 7 1 (.imul) := ⟨by decide +kernel, rfl⟩
theorem d_X10_hasWind_7 : kf_dq cX10_hasWind 7 10 3 (.invokestatic 102) := ⟨by decide +kernel, rfl⟩
theorem d_X10_hasWind_10 : kf_dq cX10_hasWind 10 11 1 (.aload_n 0) := ⟨by decide +kernel, rfl⟩
theorem d_X10_hasWind_11 : kf_dq cX10_hasWind 11 14 3 (.getfield 63) := ⟨by decide +kernel, rfl⟩
theorem d_X10_hasWind_14 : kf_dj cX10_hasWind 14 17 21 (.if_icmp .ge) := ⟨7, by decide +kernel, rfl, by decide⟩
theorem d_X10_hasWind_17 : kf_dq cX10_hasWind 17 18 1 (.iconst 1) := ⟨by decide +kernel, rfl⟩
theorem d_X10_hasWind_18 : kf_dj cX10_hasWind 18 21 22 .goto := ⟨4, by decide +kernel, rfl, by decide⟩
theorem d_X10_hasWind_21 : kf_dq cX10_hasWind 21 22 1 (.iconst 0) := ⟨by decide +kernel, rfl⟩
theorem d_X10_hasWind_22 : kf_dq cX10_hasWind 22 23 1 (.ireturn) := ⟨by decide +kernel, rfl⟩
def f_X10_hasWind (v0 : Nat) (v1 : Int32) (v2 : Int32) (σ : kf_St) : Option (Int32 × kf_St) :=
  (f_X10_lot 100 v1 (16 * v2) σ).bind fun q_1 =>
  if (q_1.2.1 v0 3) ≤ q_1.1 then
    some (0, q_1.2)
  else
    some (1, q_1.2)
set_option maxRecDepth 100000 in
set_option maxHeartbeats 4000000 in
theorem c_X10_hasWind {G : kf_G} (hty : kf_wt G) (v0 : Nat) (v1 : Int32) (v2 : Int32) (k_v0 : kf_kd G v0 = 11) (σ : kf_St) {q : (Int32 × kf_St)} (h : f_X10_hasWind v0 v1 v2 σ = some q) : kf_Ct (3) yX10_hasWind cX10_hasWind 3 (some .boolean) G [.ref (kf_ad G v0), .int v1, .int v2] σ (some (.int q.1)) q.2 := by
  refine kf_Ct.of hty.1 (lv := [(0, .ref (kf_ad G v0)), (1, .int v1), (2, .int v2)]) (by decide +kernel) rfl (Nat.le_of_ble_eq_true rfl) (fun X E => ?_)
  unfold f_X10_hasWind at h
  refine wa_bipush 100 bp_100 E d_X10_hasWind_0 ?_
  refine wa_iload_n 1 rfl E d_X10_hasWind_2 ?_
  refine wa_bipush 16 bp_16 E d_X10_hasWind_3 ?_
  refine wa_iload_n 2 rfl E d_X10_hasWind_5 ?_
  refine wa_imul E d_X10_hasWind_6 ?_
  obtain ⟨q_1, hq_1, h⟩ := kf_bd h
  refine wa_callS (st2 := [.int q_1.1]) (c_X10_lot hty 100 v1 (16 * v2) σ hq_1) mt_X10_lot ml_X10_102 rfl (Nat.le_of_ble_eq_true rfl) rfl (Nat.le_of_ble_eq_true rfl) E d_X10_hasWind_7 rfl ?_
  refine wa_aload_n 0 rfl E d_X10_hasWind_10 ?_
  refine wa_getI fl_X10_63 k_v0 rfl E d_X10_hasWind_11 ?_
  refine wa_icmp_ge E d_X10_hasWind_14 (fun c_2 => ?_) (fun c_2 => ?_)
  · replace h := kf_ift c_2 h
    refine wa_iconst 0 ic_0 E d_X10_hasWind_21 ?_
    cases h
    exact wa_zret kf_z0 E d_X10_hasWind_22
  · replace h := kf_iff c_2 h
    refine wa_iconst 1 ic_1 E d_X10_hasWind_17 ?_
    refine wa_goto E d_X10_hasWind_18 ?_
    cases h
    exact wa_zret kf_z1 E d_X10_hasWind_22
/-! X4_passDay -/
theorem d_X4_passDay_0 : kf_dq cX4_passDay 0 1 1 (.iconst 0) := ⟨by decide +kernel, rfl⟩
theorem d_X4_passDay_1 : kf_dq cX4_passDay 1 3 2 (.istore 6) := ⟨by decide +kernel, rfl⟩
theorem d_X4_passDay_3 : kf_dq cX4_passDay 3 5 2 (.iload 6) := ⟨by decide +kernel, rfl⟩
theorem d_X4_passDay_5 : kf_dq cX4_passDay 5 6 1 (.aload_n 0) := ⟨by decide +kernel, rfl⟩
theorem d_X4_passDay_6 : kf_dq cX4_passDay 6 9 3 (.getfield 9) := ⟨by decide +kernel, rfl⟩
theorem d_X4_passDay_9 : kf_dq cX4_passDay 9 12 3 (.getfield 105) := ⟨by decide +kernel, rfl⟩
theorem d_X4_passDay_12 : kf_dj cX4_passDay 12 15 66 (.if_icmp .ge) := ⟨54, by decide +kernel, rfl, by decide⟩
theorem d_X4_passDay_15 : kf_dq cX4_passDay 15 16 1 (.aload_n 0) := ⟨by decide +kernel, rfl⟩
theorem d_X4_passDay_16 : kf_dq cX4_passDay 16 19 3 (.getfield 9) := ⟨by decide +kernel, rfl⟩
theorem d_X4_passDay_19 : kf_dq cX4_passDay 19 22 3 (.getfield 108) := ⟨by decide +kernel, rfl⟩
theorem d_X4_passDay_22 : kf_dq cX4_passDay 22 24 2 (.iload 6) := ⟨by decide +kernel, rfl⟩
theorem d_X4_passDay_24 : kf_dq cX4_passDay 24 25 1 (.iaload) := ⟨by decide +kernel, rfl⟩
theorem d_X4_passDay_25 : kf_dq cX4_passDay 25 26 1 (.iload_n 2) := ⟨by decide +kernel, rfl⟩
theorem d_X4_passDay_26 : kf_dj cX4_passDay 26 29 60 (.if_icmp .ne) := ⟨34, by decide +kernel, rfl, by decide⟩
theorem d_X4_passDay_29 : kf_dq cX4_passDay 29 30 1 (.aload_n 0) := ⟨by decide +kernel, rfl⟩
theorem d_X4_passDay_30 : kf_dq cX4_passDay 30 33 3 (.getfield 9) := ⟨by decide +kernel, rfl⟩
theorem d_X4_passDay_33 : kf_dq cX4_passDay 33 35 2 (.iload 6) := ⟨by decide +kernel, rfl⟩
theorem d_X4_passDay_35 : kf_dq cX4_passDay 35 36 1 (.iload_n 3) := ⟨by decide +kernel, rfl⟩
theorem d_X4_passDay_36 : kf_dq cX4_passDay 36 38 2 (.iload 4) := ⟨by decide +kernel, rfl⟩
theorem d_X4_passDay_38 : kf_dq cX4_passDay 38 41 3 (.invokevirtual 111) := ⟨by decide +kernel, rfl⟩
theorem d_X4_passDay_41 : kf_dj cX4_passDay 41 44 60 (.ifCond .eq) := ⟨19, by decide +kernel, rfl, by decide⟩
theorem d_X4_passDay_44 : kf_dq cX4_passDay 44 45 1 (.aload_n 0) := ⟨by decide +kernel, rfl⟩
theorem d_X4_passDay_45 : kf_dq cX4_passDay 45 46 1 (.aload_n 1) := ⟨by decide +kernel, rfl⟩
theorem d_X4_passDay_46 : kf_dq cX4_passDay 46 47 1 (.aload_n 0) := ⟨by decide +kernel, rfl⟩
theorem d_X4_passDay_47 : kf_dq cX4_passDay 47 50 3 (.getfield 9) := ⟨by decide +kernel, rfl⟩
theorem d_X4_passDay_50 : kf_dq cX4_passDay 50 53 3 (.getfield 115) := ⟨by decide +kernel, rfl⟩
theorem d_X4_passDay_53 : kf_dq cX4_passDay 53 55 2 (.iload 6) := ⟨by decide +kernel, rfl⟩
theorem d_X4_passDay_55 : kf_dq cX4_passDay 55 56 1 (.iaload) := ⟨by decide +kernel, rfl⟩
theorem d_X4_passDay_56 : kf_dq cX4_passDay 56 57 1 (.iload_n 3) := ⟨by decide +kernel, rfl⟩
theorem d_X4_passDay_57 : kf_dq cX4_passDay 57 60 3 (.invokevirtual 118) := ⟨by decide +kernel, rfl⟩
theorem d_X4_passDay_60 : kf_dq cX4_passDay 60 63 3 (.iinc 6 1) := ⟨by decide +kernel, rfl⟩
theorem d_X4_passDay_63 : kf_dj cX4_passDay 63 66 3 .goto := ⟨(-60), by decide +kernel, rfl, by decide⟩
theorem d_X4_passDay_66 : kf_dq cX4_passDay 66 68 2 (.iload 5) := ⟨by decide +kernel, rfl⟩
theorem d_X4_passDay_68 : kf_dq cX4_passDay 68 69 1 (.iconst (-1)) := ⟨by decide +kernel, rfl⟩
theorem d_X4_passDay_69 : kf_dj cX4_passDay 69 72 121 (.if_icmp .eq) := ⟨52, by decide +kernel, rfl, by decide⟩
theorem d_X4_passDay_72 : kf_dq cX4_passDay 72 73 1 (.aload_n 0) := ⟨by decide +kernel, rfl⟩
theorem d_X4_passDay_73 : kf_dq cX4_passDay 73 76 3 (.getfield 9) := ⟨by decide +kernel, rfl⟩
theorem d_X4_passDay_76 : kf_dq cX4_passDay 76 78 2 (.iload 5) := ⟨by decide +kernel, rfl⟩
theorem d_X4_passDay_78 : kf_dq cX4_passDay 78 79 1 (.iload_n 3) := ⟨by decide +kernel, rfl⟩
theorem d_X4_passDay_79 : kf_dq cX4_passDay 79 82 3 (.invokevirtual 122) := ⟨by decide +kernel, rfl⟩
theorem d_X4_passDay_82 : kf_dj cX4_passDay 82 85 121 (.ifCond .eq) := ⟨39, by decide +kernel, rfl, by decide⟩
theorem d_X4_passDay_85 : kf_dq cX4_passDay 85 86 1 (.iconst 4) := ⟨by decide +kernel, rfl⟩
theorem d_X4_passDay_86 : kf_dq cX4_passDay 86 88 2 (.iload 5) := ⟨by decide +kernel, rfl⟩
theorem d_X4_passDay_88 : kf_dq cX4_passDay 88 90 2 (.bipush 16) := ⟨by decide +kernel, rfl⟩
theorem d_X4_passDay_90 : kf_dq cX4_passDay 90 91 1 (.iload_n 3) := ⟨by decide +kernel, rfl⟩
theorem d_X4_passDay_91 : kf_dq cX4_passDay 91 92 1 (.imul) := ⟨by decide +kernel, rfl⟩
theorem d_X4_passDay_92 : kf_dq cX4_passDay 92 93 1 (.iconst 1) := ⟨by decide +kernel, rfl⟩
theorem d_X4_passDay_93 : kf_dq cX4_passDay 93 94 1 (.iadd) := ⟨by decide +kernel, rfl⟩
theorem d_X4_passDay_94 : kf_dq cX4_passDay 94 95 1 (.iload_n 2) := ⟨by decide +kernel, rfl⟩
theorem d_X4_passDay_95 : kf_dq cX4_passDay 95 96 1 (.iadd) := ⟨by decide +kernel, rfl⟩
theorem d_X4_passDay_96 : kf_dq cX4_passDay 96 99 3 (.invokestatic 126) := ⟨by decide +kernel, rfl⟩
theorem d_X4_passDay_99 : kf_dq cX4_passDay 99 101 2 (.istore 6) := ⟨by decide +kernel, rfl⟩
theorem d_X4_passDay_101 : kf_dq cX4_passDay 101 102 1 (.aload_n 1) := ⟨by decide +kernel, rfl⟩
theorem d_X4_passDay_102 : kf_dq cX4_passDay 102 105 3 (.getfield 36) := ⟨by decide +kernel, rfl⟩
theorem d_X4_passDay_105 : kf_dq cX4_passDay 105 107 2 (.iload 6) := ⟨by decide +kernel, rfl⟩
theorem d_X4_passDay_107 : kf_dq cX4_passDay 107 108 1 (.iconst 0) := ⟨by decide +kernel, rfl⟩
theorem d_X4_passDay_108 : kf_dq cX4_passDay 108 109 1 (.aload_n 1) := ⟨by decide +kernel, rfl⟩
theorem d_X4_passDay_109 : kf_dq cX4_passDay 109 112 3 (.getfield 36) := ⟨by decide +kernel, rfl⟩
theorem d_X4_passDay_112 : kf_dq cX4_passDay 112 114 2 (.iload 6) := ⟨by decide +kernel, rfl⟩
theorem d_X4_passDay_114 : kf_dq cX4_passDay 114 115 1 (.iaload) := ⟨by decide +kernel, rfl⟩
theorem d_X4_passDay_115 : kf_dq cX4_passDay 115 116 1 (.iconst 1) := ⟨by decide +kernel, rfl⟩
theorem d_X4_passDay_116 : kf_dq cX4_passDay 116 117 1 (.isub) := ⟨by decide +kernel, rfl⟩
theorem d_X4_passDay_117 : kf_dq cX4_passDay 117 120 3 (.invokestatic 65) := ⟨by decide +kernel, rfl⟩
theorem d_X4_passDay_120 : kf_dq cX4_passDay 120 121 1 (.iastore) := ⟨by decide +kernel, rfl⟩
theorem d_X4_passDay_121 : kf_dq cX4_passDay 121 122 1 (.aload_n 0) := ⟨by decide +kernel, rfl⟩
theorem d_X4_passDay_122 : kf_dq cX4_passDay 122 123 1 (.aload_n 0) := ⟨by decide +kernel, rfl⟩
theorem d_X4_passDay_123 : kf_dq cX4_passDay 123 126 3 (.getfield 9) := ⟨by decide +kernel, rfl⟩
theorem d_X4_passDay_126 : kf_dq cX4_passDay 126 129 3 (.getfield 130) := ⟨by decide +kernel, rfl⟩
theorem d_X4_passDay_129 : kf_dq cX4_passDay 129 130 1 (.aload_n 1) := ⟨by decide +kernel, rfl⟩
theorem d_X4_passDay_130 : kf_dq cX4_passDay 130 131 1 (.aload_n 0) := ⟨by decide +kernel, rfl⟩
theorem d_X4_passDay_131 : kf_dq cX4_passDay 131 134 3 (.getfield 9) := ⟨by decide +kernel, rfl⟩
theorem d_X4_passDay_134 : kf_dq cX4_passDay 134 137 3 (.getfield 102) := ⟨by decide +kernel, rfl⟩
theorem d_X4_passDay_137 : kf_dq cX4_passDay 137 138 1 (.iload_n 2) := ⟨by decide +kernel, rfl⟩
theorem d_X4_passDay_138 : kf_dq cX4_passDay 138 139 1 (.iload_n 3) := ⟨by decide +kernel, rfl⟩
theorem d_X4_passDay_139 : kf_dq cX4_passDay 139 142 3 (.invokevirtual 94) := ⟨by decide +kernel, rfl⟩
theorem d_X4_passDay_142 : kf_dq cX4_passDay 142 143 1 (.aload_n 1) := ⟨by decide +kernel, rfl⟩
theorem d_X4_passDay_143 : kf_dq cX4_passDay 143 144 1 (.aload_n 1) := ⟨by decide +kernel, rfl⟩
theorem d_X4_passDay_144 : kf_dq cX4_passDay 144 147 3 (.getfield 98) := ⟨by decide +kernel, rfl⟩
theorem d_X4_passDay_147 : kf_dj cX4_passDay 147 150 154 (.ifCond .eq) := ⟨7, by decide +kernel, rfl, by decide⟩
theorem d_X4_passDay_150 : kf_dq cX4_passDay 150 151 1 (.iconst 0) := ⟨by decide +kernel, rfl⟩
theorem d_X4_passDay_151 : kf_dj cX4_passDay 151 154 166 .goto := ⟨15, by decide +kernel, rfl, by decide⟩
theorem d_X4_passDay_154 : kf_dq cX4_passDay 154 157 3 (.sipush 999) := ⟨by decide +kernel, rfl⟩
theorem d_X4_passDay_157 : kf_dq cX4_passDay 157 158 1 (.aload_n 1) := ⟨by decide +kernel, rfl⟩
theorem d_X4_passDay_158 : kf_dq cX4_passDay 158 161 3 (.getfield 30) := ⟨by decide +kernel, rfl⟩
theorem d_X4_passDay_161 : kf_dq cX4_passDay 161 162 1 (.iconst 1) := ⟨by decide +kernel, rfl⟩
theorem d_X4_passDay_162 : kf_dq cX4_passDay 162 163 1 (.iadd) := ⟨by decide +kernel, rfl⟩
theorem d_X4_passDay_163 : kf_dq cX4_passDay 163 166 3 (.invokestatic 59) := ⟨by decide +kernel, rfl⟩
theorem d_X4_passDay_166 : kf_dq cX4_passDay 166 169 3 (.putfield 30) := ⟨by decide +kernel, rfl⟩
theorem d_X4_passDay_169 : kf_dq cX4_passDay 169 170 1 (.aload_n 1) := ⟨by decide +kernel, rfl⟩
theorem d_X4_passDay_170 : kf_dq cX4_passDay 170 171 1 (.iconst 0) := ⟨by decide +kernel, rfl⟩
theorem d_X4_passDay_171 : kf_dq cX4_passDay 171 174 3 (.putfield 98) := ⟨by decide +kernel, rfl⟩
theorem d_X4_passDay_174 : kf_dq cX4_passDay 174 175 1 (.return_) := ⟨by decide +kernel, rfl⟩
def f_X4_passDay_166 (v1 : Nat) (s0 : Nat) (s1 : Int32) (σ : kf_St) : Option kf_St :=
  kf_lt (kf_wi σ s0 2 s1) fun σ_1 =>
  kf_lt (kf_wi σ_1 v1 5 0) fun σ_2 =>
  some σ_2
set_option maxRecDepth 100000 in
set_option maxHeartbeats 4000000 in
theorem b_X4_passDay_166 {X : kf_X} {G : kf_G} {q : kf_St} (E : kf_ok X G cX4_passDay RX4 7 none (6)) (hty : kf_wt G) (v1 : Nat) (s0 : Nat) (s1 : Int32) (k_v1 : kf_kd G v1 = 2) (k_s0 : kf_kd G s0 = 2) (σ : kf_St) (h : f_X4_passDay_166 v1 s0 s1 σ = some q) : kf_WA X G 7 (kf_Q X G none q) 166 [(1, .ref (kf_ad G v1))] [.int s1, .ref (kf_ad G s0)] σ := by
  unfold f_X4_passDay_166 at h
  obtain ⟨σ_1, eσ_1, h⟩ := kf_lte h
  refine wa_putI fl_X4_30 fp_1_2 k_s0 rfl (by decide) rfl rfl E d_X4_passDay_166 eσ_1 ?_
  refine wa_aload_n 0 rfl E d_X4_passDay_169 ?_
  refine wa_iconst 0 ic_0 E d_X4_passDay_170 ?_
  obtain ⟨σ_2, eσ_2, h⟩ := kf_lte h
  refine wa_putI fl_X4_98 fp_1_5 k_v1 rfl (by decide) kf_z0 kf_f0 E d_X4_passDay_171 eσ_2 ?_
  cases h
  exact wa_vret E d_X4_passDay_174
def f_X4_passDay_121 (v0 : Nat) (v1 : Nat) (v2 : Int32) (v3 : Int32) (σ : kf_St) : Option kf_St :=
  (f_X4_moveBy v0 (kf_rf (kf_rf v0 0) 15) v1 (kf_rf (kf_rf v0 0) 8) v2 v3 σ).bind fun q_1 =>
  if (q_1.1 v1 5) = 0 then
    kf_lt (if ((q_1.1 v1 2) + 1) < 999 then ((q_1.1 v1 2) + 1) else 999) fun x_3 =>
    f_X4_passDay_166 v1 v1 x_3 q_1
  else
    f_X4_passDay_166 v1 v1 0 q_1
set_option maxRecDepth 100000 in
set_option maxHeartbeats 4000000 in
theorem b_X4_passDay_121 {X : kf_X} {G : kf_G} {q : kf_St} (E : kf_ok X G cX4_passDay RX4 7 none (6)) (hty : kf_wt G) (v0 : Nat) (v1 : Nat) (v2 : Int32) (v3 : Int32) (k_v0 : kf_kd G v0 = 5) (k_v1 : kf_kd G v1 = 2) (σ : kf_St) (h : f_X4_passDay_121 v0 v1 v2 v3 σ = some q) : kf_WA X G 7 (kf_Q X G none q) 121 [(0, .ref (kf_ad G v0)), (1, .ref (kf_ad G v1)), (2, .int v2), (3, .int v3)] [] σ := by
  unfold f_X4_passDay_121 at h
  refine wa_aload_n 0 rfl E d_X4_passDay_121 ?_
  refine wa_aload_n 0 rfl E d_X4_passDay_122 ?_
  refine wa_getR fl_X4_9 k_v0 rfl E d_X4_passDay_123 ?_
  refine wa_getR fl_X4_130 (kf_wtf hty 0 10 k_v0 (by decide) rfl) rfl E d_X4_passDay_126 ?_
  refine wa_aload_n 1 rfl E d_X4_passDay_129 ?_
  refine wa_aload_n 0 rfl E d_X4_passDay_130 ?_
  refine wa_getR fl_X4_9 k_v0 rfl E d_X4_passDay_131 ?_
  refine wa_getR fl_X4_102 (kf_wtf hty 0 10 k_v0 (by decide) rfl) rfl E d_X4_passDay_134 ?_
  refine wa_iload_n 2 rfl E d_X4_passDay_137 ?_
  refine wa_iload_n 3 rfl E d_X4_passDay_138 ?_
  obtain ⟨q_1, hq_1, h⟩ := kf_bd h
  refine wa_callV (st2 := []) (c_X4_moveBy hty v0 (kf_rf (kf_rf v0 0) 15) v1 (kf_rf (kf_rf v0 0) 8) v2 v3 k_v0 (kf_wtf hty 15 2 (kf_wtf hty 0 10 k_v0 (by decide) rfl) (by decide) rfl) k_v1 (kf_wtf hty 8 49 (kf_wtf hty 0 10 k_v0 (by decide) rfl) (by decide) rfl) σ hq_1) mv_X4_moveBy ml_X4_94 k_v0 rfl (Nat.le_of_ble_eq_true rfl) rfl (Nat.le_of_ble_eq_true rfl) E d_X4_passDay_139 rfl ?_
  refine wa_aload_n 1 rfl E d_X4_passDay_142 ?_
  refine wa_aload_n 1 rfl E d_X4_passDay_143 ?_
  refine wa_getZ fl_X4_98 k_v1 rfl E d_X4_passDay_144 ?_
  refine wa_if_eq E d_X4_passDay_147 (fun c_2 => ?_) (fun c_2 => ?_)
  · replace h := kf_ift c_2 h
    refine wa_sipush 999 sp_999 E d_X4_passDay_154 ?_
    refine wa_aload_n 1 rfl E d_X4_passDay_157 ?_
    refine wa_getI fl_X4_30 k_v1 rfl E d_X4_passDay_158 ?_
    refine wa_iconst 1 ic_1 E d_X4_passDay_161 ?_
    refine wa_iadd E d_X4_passDay_162 ?_
    refine wa_mmin ml_X4_59 ms_min mini mc_min (Nat.le_of_ble_eq_true rfl) (Nat.le_of_ble_eq_true rfl) E d_X4_passDay_163 ?_
    obtain ⟨x_3, ex_3, h⟩ := kf_lte h
    refine wa_topi ex_3 ?_
    refine wa_sub [1] rfl ?_
    exact b_X4_passDay_166 E hty v1 v1 x_3 k_v1 k_v1 q_1 h
  · replace h := kf_iff c_2 h
    refine wa_iconst 0 ic_0 E d_X4_passDay_150 ?_
    refine wa_goto E d_X4_passDay_151 ?_
    refine wa_sub [1] rfl ?_
    exact b_X4_passDay_166 E hty v1 v1 0 k_v1 k_v1 q_1 h
def f_X4_passDay_60 (rec3 : Nat → Nat → Int32 → Int32 → Int32 → Int32 → Int32 → kf_St → Option kf_St) (v0 : Nat) (v1 : Nat) (v2 : Int32) (v3 : Int32) (v4 : Int32) (v5 : Int32) (v6 : Int32) (σ : kf_St) : Option kf_St :=
  kf_lt (v6 + 1) fun v6_1 =>
  rec3 v0 v1 v2 v3 v4 v5 v6_1 σ
set_option maxRecDepth 100000 in
set_option maxHeartbeats 4000000 in
theorem b_X4_passDay_60 {X : kf_X} {G : kf_G} {rec3 : Nat → Nat → Int32 → Int32 → Int32 → Int32 → Int32 → kf_St → Option kf_St} {q : kf_St} (E : kf_ok X G cX4_passDay RX4 7 none (6)) (hty : kf_wt G) (hrec3 : ∀ (v0 : Nat) (v1 : Nat) (v2 : Int32) (v3 : Int32) (v4 : Int32) (v5 : Int32) (v6 : Int32) (k_v0 : kf_kd G v0 = 5) (k_v1 : kf_kd G v1 = 2) (σ : kf_St), rec3 v0 v1 v2 v3 v4 v5 v6 σ = some q → kf_WA X G 7 (kf_Q X G none q) 3 [(0, .ref (kf_ad G v0)), (1, .ref (kf_ad G v1)), (2, .int v2), (3, .int v3), (4, .int v4), (5, .int v5), (6, .int v6)] [] σ) (v0 : Nat) (v1 : Nat) (v2 : Int32) (v3 : Int32) (v4 : Int32) (v5 : Int32) (v6 : Int32) (k_v0 : kf_kd G v0 = 5) (k_v1 : kf_kd G v1 = 2) (σ : kf_St) (h : f_X4_passDay_60 rec3 v0 v1 v2 v3 v4 v5 v6 σ = some q) : kf_WA X G 7 (kf_Q X G none q) 60 [(0, .ref (kf_ad G v0)), (1, .ref (kf_ad G v1)), (2, .int v2), (3, .int v3), (4, .int v4), (5, .int v5), (6, .int v6)] [] σ := by
  unfold f_X4_passDay_60 at h
  obtain ⟨v6_1, ev6_1, h⟩ := kf_lte h
  refine wa_iinc (lv' := [(6, .int v6_1), (0, .ref (kf_ad G v0)), (1, .ref (kf_ad G v1)), (2, .int v2), (3, .int v3), (4, .int v4), (5, .int v5)]) v6_1 6 rfl (kf_inc ic_1 ev6_1) (by decide) rfl E d_X4_passDay_60 ?_
  refine wa_goto E d_X4_passDay_63 ?_
  refine wa_sub [1, 2, 3, 4, 5, 6, 0] rfl ?_
  exact hrec3 v0 v1 v2 v3 v4 v5 v6_1 k_v0 k_v1 σ h
def f_X4_passDay_3_s (rec3 : Nat → Nat → Int32 → Int32 → Int32 → Int32 → Int32 → kf_St → Option kf_St) (v0 : Nat) (v1 : Nat) (v2 : Int32) (v3 : Int32) (v4 : Int32) (v5 : Int32) (v6 : Int32) (σ : kf_St) : Option kf_St :=
  if (σ.1 (kf_rf v0 0) 2) ≤ v6 then
    if v5 = (-1) then
      f_X4_passDay_121 v0 v1 v2 v3 σ
    else
      (f_X10_hasWind (kf_rf v0 0) v5 v3 σ).bind fun q_3 =>
      if q_3.1 = 0 then
        f_X4_passDay_121 v0 v1 v2 v3 q_3.2
      else
        (f_X10_lot 4 v5 (((16 * v3) + 1) + v2) q_3.2).bind fun q_5 =>
        if kf_ix q_5.1 (kf_ln (kf_rf v1 0)) = true then
        kf_lt (if 0 < ((q_5.2.1 (kf_rf v1 0) (Int32.toNatClampNeg q_5.1)) - 1) then ((q_5.2.1 (kf_rf v1 0) (Int32.toNatClampNeg q_5.1)) - 1) else 0) fun x_7 =>
        if kf_ix q_5.1 (kf_ln (kf_rf v1 0)) = true then
        kf_lt (kf_wi q_5.2 (kf_rf v1 0) (Int32.toNatClampNeg q_5.1) x_7) fun σ_9 =>
        f_X4_passDay_121 v0 v1 v2 v3 σ_9
        else none
        else none
  else
    if kf_ix v6 (kf_ln (kf_rf (kf_rf v0 0) 11)) = true then
    if (σ.1 (kf_rf (kf_rf v0 0) 11) (Int32.toNatClampNeg v6)) = v2 then
      (f_X10_comes (kf_rf v0 0) v6 v3 v4 σ).bind fun q_12 =>
      if q_12.1 = 0 then
        f_X4_passDay_60 rec3 v0 v1 v2 v3 v4 v5 v6 q_12.2
      else
        if kf_ix v6 (kf_ln (kf_rf (kf_rf v0 0) 10)) = true then
        (f_X4_liftBy v0 v1 (q_12.2.1 (kf_rf (kf_rf v0 0) 10) (Int32.toNatClampNeg v6)) v3 q_12.2).bind fun q_15 =>
        f_X4_passDay_60 rec3 v0 v1 v2 v3 v4 v5 v6 q_15
        else none
    else
      f_X4_passDay_60 rec3 v0 v1 v2 v3 v4 v5 v6 σ
    else none
def f_X4_passDay_3 : Nat → Nat → Nat → Int32 → Int32 → Int32 → Int32 → Int32 → kf_St → Option kf_St
  | 0, _, _, _, _, _, _, _, _ => none
  | n + 1, v0, v1, v2, v3, v4, v5, v6, σ => f_X4_passDay_3_s (f_X4_passDay_3 n) v0 v1 v2 v3 v4 v5 v6 σ
set_option maxRecDepth 100000 in
set_option maxHeartbeats 4000000 in
theorem b_X4_passDay_3_s {X : kf_X} {G : kf_G} (rec3 : Nat → Nat → Int32 → Int32 → Int32 → Int32 → Int32 → kf_St → Option kf_St) {q : kf_St} (E : kf_ok X G cX4_passDay RX4 7 none (6)) (hty : kf_wt G) (hrec3 : ∀ (v0 : Nat) (v1 : Nat) (v2 : Int32) (v3 : Int32) (v4 : Int32) (v5 : Int32) (v6 : Int32) (k_v0 : kf_kd G v0 = 5) (k_v1 : kf_kd G v1 = 2) (σ : kf_St), rec3 v0 v1 v2 v3 v4 v5 v6 σ = some q → kf_WA X G 7 (kf_Q X G none q) 3 [(0, .ref (kf_ad G v0)), (1, .ref (kf_ad G v1)), (2, .int v2), (3, .int v3), (4, .int v4), (5, .int v5), (6, .int v6)] [] σ) (v0 : Nat) (v1 : Nat) (v2 : Int32) (v3 : Int32) (v4 : Int32) (v5 : Int32) (v6 : Int32) (k_v0 : kf_kd G v0 = 5) (k_v1 : kf_kd G v1 = 2) (σ : kf_St) (h : f_X4_passDay_3_s rec3 v0 v1 v2 v3 v4 v5 v6 σ = some q) : kf_WA X G 7 (kf_Q X G none q) 3 [(0, .ref (kf_ad G v0)), (1, .ref (kf_ad G v1)), (2, .int v2), (3, .int v3), (4, .int v4), (5, .int v5), (6, .int v6)] [] σ := by
  unfold f_X4_passDay_3_s at h
  refine wa_iload 6 rfl E d_X4_passDay_3 ?_
  refine wa_aload_n 0 rfl E d_X4_passDay_5 ?_
  refine wa_getR fl_X4_9 k_v0 rfl E d_X4_passDay_6 ?_
  refine wa_getI fl_X4_105 (kf_wtf hty 0 10 k_v0 (by decide) rfl) rfl E d_X4_passDay_9 ?_
  refine wa_icmp_ge E d_X4_passDay_12 (fun c_1 => ?_) (fun c_1 => ?_)
  · replace h := kf_ift c_1 h
    refine wa_iload 5 rfl E d_X4_passDay_66 ?_
    refine wa_iconst (-1) ic_m1 E d_X4_passDay_68 ?_
    refine wa_icmp_eq E d_X4_passDay_69 (fun c_2 => ?_) (fun c_2 => ?_)
    · replace h := kf_ift c_2 h
      refine wa_sub [0, 1, 2, 3] rfl ?_
      exact b_X4_passDay_121 E hty v0 v1 v2 v3 k_v0 k_v1 σ h
    · replace h := kf_iff c_2 h
      refine wa_aload_n 0 rfl E d_X4_passDay_72 ?_
      refine wa_getR fl_X4_9 k_v0 rfl E d_X4_passDay_73 ?_
      refine wa_iload 5 rfl E d_X4_passDay_76 ?_
      refine wa_iload_n 3 rfl E d_X4_passDay_78 ?_
      obtain ⟨q_3, hq_3, h⟩ := kf_bd h
      refine wa_callV (st2 := [.int q_3.1]) (c_X10_hasWind hty (kf_rf v0 0) v5 v3 (kf_wtf hty 0 10 k_v0 (by decide) rfl) σ hq_3) mv_X10_hasWind ml_X4_122 (kf_wtf hty 0 10 k_v0 (by decide) rfl) rfl (Nat.le_of_ble_eq_true rfl) rfl (Nat.le_of_ble_eq_true rfl) E d_X4_passDay_79 rfl ?_
      refine wa_if_eq E d_X4_passDay_82 (fun c_4 => ?_) (fun c_4 => ?_)
      · replace h := kf_ift c_4 h
        refine wa_sub [0, 1, 2, 3] rfl ?_
        exact b_X4_passDay_121 E hty v0 v1 v2 v3 k_v0 k_v1 q_3.2 h
      · replace h := kf_iff c_4 h
        refine wa_iconst 4 ic_4 E d_X4_passDay_85 ?_
        refine wa_iload 5 rfl E d_X4_passDay_86 ?_
        refine wa_bipush 16 bp_16 E d_X4_passDay_88 ?_
        refine wa_iload_n 3 rfl E d_X4_passDay_90 ?_
        refine wa_imul E d_X4_passDay_91 ?_
        refine wa_iconst 1 ic_1 E d_X4_passDay_92 ?_
        refine wa_iadd E d_X4_passDay_93 ?_
        refine wa_iload_n 2 rfl E d_X4_passDay_94 ?_
        refine wa_iadd E d_X4_passDay_95 ?_
        obtain ⟨q_5, hq_5, h⟩ := kf_bd h
        refine wa_callS (st2 := [.int q_5.1]) (c_X10_lot hty 4 v5 (((16 * v3) + 1) + v2) q_3.2 hq_5) mt_X10_lot ml_X4_126 rfl (Nat.le_of_ble_eq_true rfl) rfl (Nat.le_of_ble_eq_true rfl) E d_X4_passDay_96 rfl ?_
        refine wa_istore (lv' := [(6, .int q_5.1), (0, .ref (kf_ad G v0)), (1, .ref (kf_ad G v1)), (2, .int v2), (3, .int v3), (4, .int v4), (5, .int v5)]) (by decide) rfl E d_X4_passDay_99 ?_
        refine wa_aload_n 2 rfl E d_X4_passDay_101 ?_
        refine wa_getR fl_X4_36 k_v1 rfl E d_X4_passDay_102 ?_
        refine wa_iload 0 rfl E d_X4_passDay_105 ?_
        refine wa_iconst 0 ic_0 E d_X4_passDay_107 ?_
        refine wa_aload_n 2 rfl E d_X4_passDay_108 ?_
        refine wa_getR fl_X4_36 k_v1 rfl E d_X4_passDay_109 ?_
        refine wa_iload 0 rfl E d_X4_passDay_112 ?_
        obtain ⟨g_6, h⟩ := kf_gd h
        refine wa_iald (kf_wtf hty 0 49 k_v1 (by decide) rfl) g_6 E d_X4_passDay_114 ?_
        refine wa_iconst 1 ic_1 E d_X4_passDay_115 ?_
        refine wa_isub E d_X4_passDay_116 ?_
        refine wa_mmax ml_X4_65 ms_max mini mc_max (Nat.le_of_ble_eq_true rfl) (Nat.le_of_ble_eq_true rfl) E d_X4_passDay_117 ?_
        obtain ⟨x_7, ex_7, h⟩ := kf_lte h
        refine wa_topi ex_7 ?_
        obtain ⟨g_8, h⟩ := kf_gd h
        obtain ⟨σ_9, eσ_9, h⟩ := kf_lte h
        refine wa_iast (kf_wtf hty 0 49 k_v1 (by decide) rfl) g_8 E d_X4_passDay_120 eσ_9 ?_
        refine wa_sub [1, 2, 3, 4] rfl ?_
        exact b_X4_passDay_121 E hty v0 v1 v2 v3 k_v0 k_v1 σ_9 h
  · replace h := kf_iff c_1 h
    refine wa_aload_n 0 rfl E d_X4_passDay_15 ?_
    refine wa_getR fl_X4_9 k_v0 rfl E d_X4_passDay_16 ?_
    refine wa_getR fl_X4_108 (kf_wtf hty 0 10 k_v0 (by decide) rfl) rfl E d_X4_passDay_19 ?_
    refine wa_iload 6 rfl E d_X4_passDay_22 ?_
    obtain ⟨g_10, h⟩ := kf_gd h
    refine wa_iald (kf_wtf hty 11 49 (kf_wtf hty 0 10 k_v0 (by decide) rfl) (by decide) rfl) g_10 E d_X4_passDay_24 ?_
    refine wa_iload_n 2 rfl E d_X4_passDay_25 ?_
    refine wa_icmp_ne E d_X4_passDay_26 (fun c_11 => ?_) (fun c_11 => ?_)
    · replace h := kf_iff c_11 h
      exact b_X4_passDay_60 E hty hrec3 v0 v1 v2 v3 v4 v5 v6 k_v0 k_v1 σ h
    · replace h := kf_ift c_11 h
      refine wa_aload_n 0 rfl E d_X4_passDay_29 ?_
      refine wa_getR fl_X4_9 k_v0 rfl E d_X4_passDay_30 ?_
      refine wa_iload 6 rfl E d_X4_passDay_33 ?_
      refine wa_iload_n 3 rfl E d_X4_passDay_35 ?_
      refine wa_iload 4 rfl E d_X4_passDay_36 ?_
      obtain ⟨q_12, hq_12, h⟩ := kf_bd h
      refine wa_callV (st2 := [.int q_12.1]) (c_X10_comes hty (kf_rf v0 0) v6 v3 v4 (kf_wtf hty 0 10 k_v0 (by decide) rfl) σ hq_12) mv_X10_comes ml_X4_111 (kf_wtf hty 0 10 k_v0 (by decide) rfl) rfl (Nat.le_of_ble_eq_true rfl) rfl (Nat.le_of_ble_eq_true rfl) E d_X4_passDay_38 rfl ?_
      refine wa_if_eq E d_X4_passDay_41 (fun c_13 => ?_) (fun c_13 => ?_)
      · replace h := kf_ift c_13 h
        exact b_X4_passDay_60 E hty hrec3 v0 v1 v2 v3 v4 v5 v6 k_v0 k_v1 q_12.2 h
      · replace h := kf_iff c_13 h
        refine wa_aload_n 0 rfl E d_X4_passDay_44 ?_
        refine wa_aload_n 1 rfl E d_X4_passDay_45 ?_
        refine wa_aload_n 0 rfl E d_X4_passDay_46 ?_
        refine wa_getR fl_X4_9 k_v0 rfl E d_X4_passDay_47 ?_
        refine wa_getR fl_X4_115 (kf_wtf hty 0 10 k_v0 (by decide) rfl) rfl E d_X4_passDay_50 ?_
        refine wa_iload 6 rfl E d_X4_passDay_53 ?_
        obtain ⟨g_14, h⟩ := kf_gd h
        refine wa_iald (kf_wtf hty 10 49 (kf_wtf hty 0 10 k_v0 (by decide) rfl) (by decide) rfl) g_14 E d_X4_passDay_55 ?_
        refine wa_iload_n 3 rfl E d_X4_passDay_56 ?_
        obtain ⟨q_15, hq_15, h⟩ := kf_bd h
        refine wa_callV (st2 := []) (c_X4_liftBy hty v0 v1 (q_12.2.1 (kf_rf (kf_rf v0 0) 10) (Int32.toNatClampNeg v6)) v3 k_v0 k_v1 q_12.2 hq_15) mv_X4_liftBy ml_X4_118 k_v0 rfl (Nat.le_of_ble_eq_true rfl) rfl (Nat.le_of_ble_eq_true rfl) E d_X4_passDay_57 rfl ?_
        exact b_X4_passDay_60 E hty hrec3 v0 v1 v2 v3 v4 v5 v6 k_v0 k_v1 q_15 h
theorem b_X4_passDay_3 {X : kf_X} {G : kf_G} {q : kf_St} (E : kf_ok X G cX4_passDay RX4 7 none (6)) (hty : kf_wt G) : ∀ (N : Nat) (v0 : Nat) (v1 : Nat) (v2 : Int32) (v3 : Int32) (v4 : Int32) (v5 : Int32) (v6 : Int32) (k_v0 : kf_kd G v0 = 5) (k_v1 : kf_kd G v1 = 2) (σ : kf_St) (_ : f_X4_passDay_3 N v0 v1 v2 v3 v4 v5 v6 σ = some q), kf_WA X G 7 (kf_Q X G none q) 3 [(0, .ref (kf_ad G v0)), (1, .ref (kf_ad G v1)), (2, .int v2), (3, .int v3), (4, .int v4), (5, .int v5), (6, .int v6)] [] σ
  | 0, _, _, _, _, _, _, _, _, _, _, h => by cases h
  | N + 1, v0, v1, v2, v3, v4, v5, v6, k_v0, k_v1, σ, h => b_X4_passDay_3_s _ E hty (b_X4_passDay_3 E hty N) v0 v1 v2 v3 v4 v5 v6 k_v0 k_v1 σ h
def f_X4_passDay (v0 : Nat) (v1 : Nat) (v2 : Int32) (v3 : Int32) (v4 : Int32) (v5 : Int32) (σ : kf_St) : Option kf_St :=
  f_X4_passDay_3 kf_F v0 v1 v2 v3 v4 v5 0 σ
set_option maxRecDepth 100000 in
set_option maxHeartbeats 4000000 in
theorem c_X4_passDay {G : kf_G} (hty : kf_wt G) (v0 : Nat) (v1 : Nat) (v2 : Int32) (v3 : Int32) (v4 : Int32) (v5 : Int32) (k_v0 : kf_kd G v0 = 5) (k_v1 : kf_kd G v1 = 2) (σ : kf_St) {q : kf_St} (h : f_X4_passDay v0 v1 v2 v3 v4 v5 σ = some q) : kf_Ct (6) yX4_passDay cX4_passDay 7 none G [.ref (kf_ad G v0), .ref (kf_ad G v1), .int v2, .int v3, .int v4, .int v5] σ none q := by
  refine kf_Ct.of hty.1 (lv := [(0, .ref (kf_ad G v0)), (1, .ref (kf_ad G v1)), (2, .int v2), (3, .int v3), (4, .int v4), (5, .int v5)]) (by decide +kernel) rfl (Nat.le_of_ble_eq_true rfl) (fun X E => ?_)
  unfold f_X4_passDay at h
  refine wa_iconst 0 ic_0 E d_X4_passDay_0 ?_
  refine wa_istore (lv' := [(6, .int 0), (0, .ref (kf_ad G v0)), (1, .ref (kf_ad G v1)), (2, .int v2), (3, .int v3), (4, .int v4), (5, .int v5)]) (by decide) rfl E d_X4_passDay_1 ?_
  refine wa_sub [1, 2, 3, 4, 5, 6, 0] rfl ?_
  exact b_X4_passDay_3 E hty kf_F v0 v1 v2 v3 v4 v5 0 k_v0 k_v1 σ h
/-! X0_after -/
theorem d_X0_after_0 : kf_dq cX0_after 0 1 1 (.aload_n 0) := ⟨by decide +kernel, rfl⟩
theorem d_X0_after_1 : kf_dq cX0_after 1 4 3 (.getfield 26) := ⟨by decide +kernel, rfl⟩
theorem d_X0_after_4 : kf_dq cX0_after 4 5 1 (.aload_n 0) := ⟨by decide +kernel, rfl⟩
theorem d_X0_after_5 : kf_dq cX0_after 5 8 3 (.getfield 15) := ⟨by decide +kernel, rfl⟩
theorem d_X0_after_8 : kf_dq cX0_after 8 11 3 (.getfield 34) := ⟨by decide +kernel, rfl⟩
theorem d_X0_after_11 : kf_dq cX0_after 11 12 1 (.iload_n 1) := ⟨by decide +kernel, rfl⟩
theorem d_X0_after_12 : kf_dq cX0_after 12 13 1 (.aaload) := ⟨by decide +kernel, rfl⟩
theorem d_X0_after_13 : kf_dq cX0_after 13 16 3 (.invokevirtual 40) := ⟨by decide +kernel, rfl⟩
theorem d_X0_after_16 : kf_dq cX0_after 16 17 1 (.iconst 0) := ⟨by decide +kernel, rfl⟩
theorem d_X0_after_17 : kf_dq cX0_after 17 19 2 (.istore 5) := ⟨by decide +kernel, rfl⟩
theorem d_X0_after_19 : kf_dq cX0_after 19 21 2 (.iload 5) := ⟨by decide +kernel, rfl⟩
theorem d_X0_after_21 : kf_dq cX0_after 21 22 1 (.iload_n 2) := ⟨by decide +kernel, rfl⟩
theorem d_X0_after_22 : kf_dj cX0_after 22 25 56 (.if_icmp .ge) := ⟨34, by decide +kernel, rfl, by decide⟩
theorem d_X0_after_25 : kf_dq cX0_after 25 26 1 (.aload_n 0) := ⟨by decide +kernel, rfl⟩
theorem d_X0_after_26 : kf_dq cX0_after 26 29 3 (.getfield 19) := ⟨by decide +kernel, rfl⟩
theorem d_X0_after_29 : kf_dq cX0_after 29 30 1 (.aload_n 0) := ⟨by decide +kernel, rfl⟩
theorem d_X0_after_30 : kf_dq cX0_after 30 33 3 (.getfield 26) := ⟨by decide +kernel, rfl⟩
theorem d_X0_after_33 : kf_dq cX0_after 33 34 1 (.iload_n 1) := ⟨by decide +kernel, rfl⟩
theorem d_X0_after_34 : kf_dq cX0_after 34 35 1 (.aload_n 0) := ⟨by decide +kernel, rfl⟩
theorem d_X0_after_35 : kf_dq cX0_after 35 38 3 (.getfield 15) := ⟨by decide +kernel, rfl⟩
theorem d_X0_after_38 : kf_dq cX0_after 38 41 3 (.getfield 44) := ⟨by decide +kernel, rfl⟩
theorem d_X0_after_41 : kf_dq cX0_after 41 43 2 (.iload 5) := ⟨by decide +kernel, rfl⟩
theorem d_X0_after_43 : kf_dq cX0_after 43 44 1 (.iadd) := ⟨by decide +kernel, rfl⟩
theorem d_X0_after_44 : kf_dq cX0_after 44 45 1 (.iload_n 3) := ⟨by decide +kernel, rfl⟩
theorem d_X0_after_45 : kf_dq cX0_after 45 47 2 (.iload 4) := ⟨by decide +kernel, rfl⟩
theorem d_X0_after_47 : kf_dq cX0_after 47 50 3 (.invokevirtual 48) := ⟨by decide +kernel, rfl⟩
theorem d_X0_after_50 : kf_dq cX0_after 50 53 3 (.iinc 5 1) := ⟨by decide +kernel, rfl⟩
theorem d_X0_after_53 : kf_dj cX0_after 53 56 19 .goto := ⟨(-34), by decide +kernel, rfl, by decide⟩
theorem d_X0_after_56 : kf_dq cX0_after 56 57 1 (.aload_n 0) := ⟨by decide +kernel, rfl⟩
theorem d_X0_after_57 : kf_dq cX0_after 57 60 3 (.getfield 26) := ⟨by decide +kernel, rfl⟩
theorem d_X0_after_60 : kf_dq cX0_after 60 61 1 (.areturn) := ⟨by decide +kernel, rfl⟩
def f_X0_after_19_s (rec19 : Nat → Int32 → Int32 → Int32 → Int32 → Int32 → kf_St → Option kf_St) (v0 : Nat) (v1 : Int32) (v2 : Int32) (v3 : Int32) (v4 : Int32) (v5 : Int32) (σ : kf_St) : Option kf_St :=
  if v2 ≤ v5 then
    some σ
  else
    (f_X4_passDay (kf_rf v0 2) (kf_rf v0 3) v1 ((σ.1 (kf_rf v0 1) 3) + v5) v3 v4 σ).bind fun q_2 =>
    kf_lt (v5 + 1) fun v5_3 =>
    rec19 v0 v1 v2 v3 v4 v5_3 q_2
def f_X0_after_19 : Nat → Nat → Int32 → Int32 → Int32 → Int32 → Int32 → kf_St → Option kf_St
  | 0, _, _, _, _, _, _, _ => none
  | n + 1, v0, v1, v2, v3, v4, v5, σ => f_X0_after_19_s (f_X0_after_19 n) v0 v1 v2 v3 v4 v5 σ
set_option maxRecDepth 100000 in
set_option maxHeartbeats 4000000 in
theorem b_X0_after_19_s {X : kf_X} {G : kf_G} (rec19 : Nat → Int32 → Int32 → Int32 → Int32 → Int32 → kf_St → Option kf_St) {q : kf_St} (E : kf_ok X G cX0_after RX0 6 (some (.object "KnockerFaces$Knocker")) (7)) (hty : kf_wt G) (hrec19 : ∀ (v0 : Nat) (v1 : Int32) (v2 : Int32) (v3 : Int32) (v4 : Int32) (v5 : Int32) (k_v0 : kf_kd G v0 = 1) (σ : kf_St), rec19 v0 v1 v2 v3 v4 v5 σ = some q → kf_WA X G 6 (kf_Q X G (some (.ref (kf_ad G (kf_rf v0 3)))) q) 19 [(0, .ref (kf_ad G v0)), (1, .int v1), (2, .int v2), (3, .int v3), (4, .int v4), (5, .int v5)] [] σ) (v0 : Nat) (v1 : Int32) (v2 : Int32) (v3 : Int32) (v4 : Int32) (v5 : Int32) (k_v0 : kf_kd G v0 = 1) (σ : kf_St) (h : f_X0_after_19_s rec19 v0 v1 v2 v3 v4 v5 σ = some q) : kf_WA X G 6 (kf_Q X G (some (.ref (kf_ad G (kf_rf v0 3)))) q) 19 [(0, .ref (kf_ad G v0)), (1, .int v1), (2, .int v2), (3, .int v3), (4, .int v4), (5, .int v5)] [] σ := by
  unfold f_X0_after_19_s at h
  refine wa_iload 5 rfl E d_X0_after_19 ?_
  refine wa_iload_n 2 rfl E d_X0_after_21 ?_
  refine wa_icmp_ge E d_X0_after_22 (fun c_1 => ?_) (fun c_1 => ?_)
  · replace h := kf_ift c_1 h
    refine wa_aload_n 0 rfl E d_X0_after_56 ?_
    refine wa_getR fl_X0_26 k_v0 rfl E d_X0_after_57 ?_
    cases h
    exact wa_aret (Or.inl ⟨_, rfl⟩) E d_X0_after_60
  · replace h := kf_iff c_1 h
    refine wa_aload_n 0 rfl E d_X0_after_25 ?_
    refine wa_getR fl_X0_19 k_v0 rfl E d_X0_after_26 ?_
    refine wa_aload_n 0 rfl E d_X0_after_29 ?_
    refine wa_getR fl_X0_26 k_v0 rfl E d_X0_after_30 ?_
    refine wa_iload_n 1 rfl E d_X0_after_33 ?_
    refine wa_aload_n 0 rfl E d_X0_after_34 ?_
    refine wa_getR fl_X0_15 k_v0 rfl E d_X0_after_35 ?_
    refine wa_getI fl_X0_44 (kf_wtf hty 1 7 k_v0 (by decide) rfl) rfl E d_X0_after_38 ?_
    refine wa_iload 5 rfl E d_X0_after_41 ?_
    refine wa_iadd E d_X0_after_43 ?_
    refine wa_iload_n 3 rfl E d_X0_after_44 ?_
    refine wa_iload 4 rfl E d_X0_after_45 ?_
    obtain ⟨q_2, hq_2, h⟩ := kf_bd h
    refine wa_callV (st2 := []) (c_X4_passDay hty (kf_rf v0 2) (kf_rf v0 3) v1 ((σ.1 (kf_rf v0 1) 3) + v5) v3 v4 (kf_wtf hty 2 4 k_v0 (by decide) rfl) (kf_wtf hty 3 1 k_v0 (by decide) rfl) σ hq_2) mv_X4_passDay ml_X0_48 (kf_wtf hty 2 4 k_v0 (by decide) rfl) rfl (Nat.le_of_ble_eq_true rfl) rfl (Nat.le_of_ble_eq_true rfl) E d_X0_after_47 rfl ?_
    obtain ⟨v5_3, ev5_3, h⟩ := kf_lte h
    refine wa_iinc (lv' := [(5, .int v5_3), (0, .ref (kf_ad G v0)), (1, .int v1), (2, .int v2), (3, .int v3), (4, .int v4)]) v5_3 5 rfl (kf_inc ic_1 ev5_3) (by decide) rfl E d_X0_after_50 ?_
    refine wa_goto E d_X0_after_53 ?_
    refine wa_sub [1, 2, 3, 4, 5, 0] rfl ?_
    exact hrec19 v0 v1 v2 v3 v4 v5_3 k_v0 q_2 h
theorem b_X0_after_19 {X : kf_X} {G : kf_G} {q : kf_St} (E : kf_ok X G cX0_after RX0 6 (some (.object "KnockerFaces$Knocker")) (7)) (hty : kf_wt G) : ∀ (N : Nat) (v0 : Nat) (v1 : Int32) (v2 : Int32) (v3 : Int32) (v4 : Int32) (v5 : Int32) (k_v0 : kf_kd G v0 = 1) (σ : kf_St) (_ : f_X0_after_19 N v0 v1 v2 v3 v4 v5 σ = some q), kf_WA X G 6 (kf_Q X G (some (.ref (kf_ad G (kf_rf v0 3)))) q) 19 [(0, .ref (kf_ad G v0)), (1, .int v1), (2, .int v2), (3, .int v3), (4, .int v4), (5, .int v5)] [] σ
  | 0, _, _, _, _, _, _, _, _, h => by cases h
  | N + 1, v0, v1, v2, v3, v4, v5, k_v0, σ, h => b_X0_after_19_s _ E hty (b_X0_after_19 E hty N) v0 v1 v2 v3 v4 v5 k_v0 σ h
def f_X0_after (v0 : Nat) (v1 : Int32) (v2 : Int32) (v3 : Int32) (v4 : Int32) (σ : kf_St) : Option kf_St :=
  if kf_ix v1 (kf_ln (kf_rf (kf_rf v0 1) 0)) = true then
  (f_X1_become (kf_rf v0 3) (kf_rf (kf_rf (kf_rf v0 1) 0) (Int32.toNatClampNeg v1)) σ).bind fun q_2 =>
  f_X0_after_19 kf_F v0 v1 v2 v3 v4 0 q_2
  else none
set_option maxRecDepth 100000 in
set_option maxHeartbeats 4000000 in
theorem c_X0_after {G : kf_G} (hty : kf_wt G) (v0 : Nat) (v1 : Int32) (v2 : Int32) (v3 : Int32) (v4 : Int32) (k_v0 : kf_kd G v0 = 1) (σ : kf_St) {q : kf_St} (h : f_X0_after v0 v1 v2 v3 v4 σ = some q) : kf_Ct (7) yX0_after cX0_after 6 (some (.object "KnockerFaces$Knocker")) G [.ref (kf_ad G v0), .int v1, .int v2, .int v3, .int v4] σ (some (.ref (kf_ad G (kf_rf v0 3)))) q := by
  refine kf_Ct.of hty.1 (lv := [(0, .ref (kf_ad G v0)), (1, .int v1), (2, .int v2), (3, .int v3), (4, .int v4)]) (by decide +kernel) rfl (Nat.le_of_ble_eq_true rfl) (fun X E => ?_)
  unfold f_X0_after at h
  refine wa_aload_n 0 rfl E d_X0_after_0 ?_
  refine wa_getR fl_X0_26 k_v0 rfl E d_X0_after_1 ?_
  refine wa_aload_n 0 rfl E d_X0_after_4 ?_
  refine wa_getR fl_X0_15 k_v0 rfl E d_X0_after_5 ?_
  refine wa_getR fl_X0_34 (kf_wtf hty 1 7 k_v0 (by decide) rfl) rfl E d_X0_after_8 ?_
  refine wa_iload_n 1 rfl E d_X0_after_11 ?_
  obtain ⟨g_1, h⟩ := kf_gd h
  refine wa_aald (kf_wtf hty 0 53 (kf_wtf hty 1 7 k_v0 (by decide) rfl) (by decide) rfl) g_1 E d_X0_after_12 ?_
  obtain ⟨q_2, hq_2, h⟩ := kf_bd h
  refine wa_callV (st2 := []) (c_X1_become hty (kf_rf v0 3) (kf_rf (kf_rf (kf_rf v0 1) 0) (Int32.toNatClampNeg v1)) (kf_wtf hty 3 1 k_v0 (by decide) rfl) (kf_wta hty (kf_wtf hty 0 53 (kf_wtf hty 1 7 k_v0 (by decide) rfl) (by decide) rfl) g_1) σ hq_2) mv_X1_become ml_X0_40 (kf_wtf hty 3 1 k_v0 (by decide) rfl) rfl (Nat.le_of_ble_eq_true rfl) rfl (Nat.le_of_ble_eq_true rfl) E d_X0_after_13 rfl ?_
  refine wa_iconst 0 ic_0 E d_X0_after_16 ?_
  refine wa_istore (lv' := [(5, .int 0), (0, .ref (kf_ad G v0)), (1, .int v1), (2, .int v2), (3, .int v3), (4, .int v4)]) (by decide) rfl E d_X0_after_17 ?_
  refine wa_sub [1, 2, 3, 4, 5, 0] rfl ?_
  exact b_X0_after_19 E hty kf_F v0 v1 v2 v3 v4 0 k_v0 q_2 h
/-! X10_knownBy -/
theorem d_X10_knownBy_0 : kf_dq cX10_knownBy 0 2 2 (.bipush (-2)) := ⟨by decide +kernel, rfl⟩
theorem d_X10_knownBy_2 : kf_dq cX10_knownBy 2 3 1 (.istore_n 2) := ⟨by decide +kernel, rfl⟩
theorem d_X10_knownBy_3 : kf_dq cX10_knownBy 3 4 1 (.aload_n 0) := ⟨by decide +kernel, rfl⟩
theorem d_X10_knownBy_4 : kf_dq cX10_knownBy 4 7 3 (.getfield 66) := ⟨by decide +kernel, rfl⟩
theorem d_X10_knownBy_7 : kf_dq cX10_knownBy 7 8 1 (.istore_n 3) := ⟨by decide +kernel, rfl⟩
theorem d_X10_knownBy_8 : kf_dq cX10_knownBy 8 9 1 (.iconst 0) := ⟨by decide +kernel, rfl⟩
theorem d_X10_knownBy_9 : kf_dq cX10_knownBy 9 11 2 (.istore 4) := ⟨by decide +kernel, rfl⟩
theorem d_X10_knownBy_11 : kf_dq cX10_knownBy 11 13 2 (.iload 4) := ⟨by decide +kernel, rfl⟩
theorem d_X10_knownBy_13 : kf_dq cX10_knownBy 13 14 1 (.aload_n 0) := ⟨by decide +kernel, rfl⟩
theorem d_X10_knownBy_14 : kf_dq cX10_knownBy 14 17 3 (.getfield 57) := ⟨by decide +kernel, rfl⟩
theorem d_X10_knownBy_17 : kf_dj cX10_knownBy 17 20 59 (.if_icmp .ge) := ⟨42, by decide +kernel, rfl, by decide⟩
theorem d_X10_knownBy_20 : kf_dq cX10_knownBy 20 21 1 (.aload_n 0) := ⟨by decide +kernel, rfl⟩
theorem d_X10_knownBy_21 : kf_dq cX10_knownBy 21 22 1 (.aload_n 1) := ⟨by decide +kernel, rfl⟩
theorem d_X10_knownBy_22 : kf_dq cX10_knownBy 22 24 2 (.iload 4) := ⟨by decide +kernel, rfl⟩
theorem d_X10_knownBy_24 : kf_dq cX10_knownBy 24 27 3 (.invokevirtual 121) := ⟨by decide +kernel, rfl⟩
theorem d_X10_knownBy_27 : kf_dq cX10_knownBy 27 29 2 (.istore 5) := ⟨by decide +kernel, rfl⟩
theorem d_X10_knownBy_29 : kf_dq cX10_knownBy 29 31 2 (.iload 5) := ⟨by decide +kernel, rfl⟩
theorem d_X10_knownBy_31 : kf_dq cX10_knownBy 31 32 1 (.iload_n 3) := ⟨by decide +kernel, rfl⟩
theorem d_X10_knownBy_32 : kf_dj cX10_knownBy 32 35 47 (.if_icmp .lt) := ⟨15, by decide +kernel, rfl, by decide⟩
theorem d_X10_knownBy_35 : kf_dq cX10_knownBy 35 36 1 (.iload_n 2) := ⟨by decide +kernel, rfl⟩
theorem d_X10_knownBy_36 : kf_dq cX10_knownBy 36 38 2 (.bipush (-2)) := ⟨by decide +kernel, rfl⟩
theorem d_X10_knownBy_38 : kf_dj cX10_knownBy 38 41 53 (.if_icmp .ne) := ⟨15, by decide +kernel, rfl, by decide⟩
theorem d_X10_knownBy_41 : kf_dq cX10_knownBy 41 43 2 (.iload 5) := ⟨by decide +kernel, rfl⟩
theorem d_X10_knownBy_43 : kf_dq cX10_knownBy 43 44 1 (.iload_n 3) := ⟨by decide +kernel, rfl⟩
theorem d_X10_knownBy_44 : kf_dj cX10_knownBy 44 47 53 (.if_icmp .ne) := ⟨9, by decide +kernel, rfl, by decide⟩
theorem d_X10_knownBy_47 : kf_dq cX10_knownBy 47 49 2 (.iload 4) := ⟨by decide +kernel, rfl⟩
theorem d_X10_knownBy_49 : kf_dq cX10_knownBy 49 50 1 (.istore_n 2) := ⟨by decide +kernel, rfl⟩
theorem d_X10_knownBy_50 : kf_dq cX10_knownBy 50 52 2 (.iload 5) := ⟨by decide +kernel, rfl⟩
theorem d_X10_knownBy_52 : kf_dq cX10_knownBy 52 53 1 (.istore_n 3) := ⟨by decide +kernel, rfl⟩
theorem d_X10_knownBy_53 : kf_dq cX10_knownBy 53 56 3 (.iinc 4 1) := ⟨by decide +kernel, rfl⟩
theorem d_X10_knownBy_56 : kf_dj cX10_knownBy 56 59 11 .goto := ⟨(-45), by decide +kernel, rfl, by decide⟩
theorem d_X10_knownBy_59 : kf_dq cX10_knownBy 59 60 1 (.iload_n 2) := ⟨by decide +kernel, rfl⟩
theorem d_X10_knownBy_60 : kf_dq cX10_knownBy 60 61 1 (.ireturn) := ⟨by decide +kernel, rfl⟩
def f_X10_knownBy_53 (rec11 : Nat → Nat → Int32 → Int32 → Int32 → kf_St → Option (Int32 × kf_St)) (v0 : Nat) (v1 : Nat) (v2 : Int32) (v3 : Int32) (v4 : Int32) (σ : kf_St) : Option (Int32 × kf_St) :=
  kf_lt (v4 + 1) fun v4_1 =>
  rec11 v0 v1 v2 v3 v4_1 σ
set_option maxRecDepth 100000 in
set_option maxHeartbeats 4000000 in
theorem b_X10_knownBy_53 {X : kf_X} {G : kf_G} {rec11 : Nat → Nat → Int32 → Int32 → Int32 → kf_St → Option (Int32 × kf_St)} {q : (Int32 × kf_St)} (E : kf_ok X G cX10_knownBy RX10 6 (some .int) (3)) (hty : kf_wt G) (hrec11 : ∀ (v0 : Nat) (v1 : Nat) (v2 : Int32) (v3 : Int32) (v4 : Int32) (k_v0 : kf_kd G v0 = 11) (k_v1 : kf_kd G v1 = 50) (σ : kf_St), rec11 v0 v1 v2 v3 v4 σ = some q → kf_WA X G 6 (kf_Q X G (some (.int q.1)) q.2) 11 [(0, .ref (kf_ad G v0)), (1, .ref (kf_ad G v1)), (2, .int v2), (3, .int v3), (4, .int v4)] [] σ) (v0 : Nat) (v1 : Nat) (v2 : Int32) (v3 : Int32) (v4 : Int32) (k_v0 : kf_kd G v0 = 11) (k_v1 : kf_kd G v1 = 50) (σ : kf_St) (h : f_X10_knownBy_53 rec11 v0 v1 v2 v3 v4 σ = some q) : kf_WA X G 6 (kf_Q X G (some (.int q.1)) q.2) 53 [(0, .ref (kf_ad G v0)), (1, .ref (kf_ad G v1)), (2, .int v2), (3, .int v3), (4, .int v4)] [] σ := by
  unfold f_X10_knownBy_53 at h
  obtain ⟨v4_1, ev4_1, h⟩ := kf_lte h
  refine wa_iinc (lv' := [(4, .int v4_1), (0, .ref (kf_ad G v0)), (1, .ref (kf_ad G v1)), (2, .int v2), (3, .int v3)]) v4_1 4 rfl (kf_inc ic_1 ev4_1) (by decide) rfl E d_X10_knownBy_53 ?_
  refine wa_goto E d_X10_knownBy_56 ?_
  refine wa_sub [1, 2, 3, 4, 0] rfl ?_
  exact hrec11 v0 v1 v2 v3 v4_1 k_v0 k_v1 σ h
def f_X10_knownBy_47 (rec11 : Nat → Nat → Int32 → Int32 → Int32 → kf_St → Option (Int32 × kf_St)) (v0 : Nat) (v1 : Nat) (v4 : Int32) (v5 : Int32) (σ : kf_St) : Option (Int32 × kf_St) :=
  f_X10_knownBy_53 rec11 v0 v1 v4 v5 v4 σ
set_option maxRecDepth 100000 in
set_option maxHeartbeats 4000000 in
theorem b_X10_knownBy_47 {X : kf_X} {G : kf_G} {rec11 : Nat → Nat → Int32 → Int32 → Int32 → kf_St → Option (Int32 × kf_St)} {q : (Int32 × kf_St)} (E : kf_ok X G cX10_knownBy RX10 6 (some .int) (3)) (hty : kf_wt G) (hrec11 : ∀ (v0 : Nat) (v1 : Nat) (v2 : Int32) (v3 : Int32) (v4 : Int32) (k_v0 : kf_kd G v0 = 11) (k_v1 : kf_kd G v1 = 50) (σ : kf_St), rec11 v0 v1 v2 v3 v4 σ = some q → kf_WA X G 6 (kf_Q X G (some (.int q.1)) q.2) 11 [(0, .ref (kf_ad G v0)), (1, .ref (kf_ad G v1)), (2, .int v2), (3, .int v3), (4, .int v4)] [] σ) (v0 : Nat) (v1 : Nat) (v4 : Int32) (v5 : Int32) (k_v0 : kf_kd G v0 = 11) (k_v1 : kf_kd G v1 = 50) (σ : kf_St) (h : f_X10_knownBy_47 rec11 v0 v1 v4 v5 σ = some q) : kf_WA X G 6 (kf_Q X G (some (.int q.1)) q.2) 47 [(0, .ref (kf_ad G v0)), (1, .ref (kf_ad G v1)), (4, .int v4), (5, .int v5)] [] σ := by
  unfold f_X10_knownBy_47 at h
  refine wa_iload 2 rfl E d_X10_knownBy_47 ?_
  refine wa_istore_n (lv' := [(2, .int v4), (0, .ref (kf_ad G v0)), (1, .ref (kf_ad G v1)), (4, .int v4), (5, .int v5)]) rfl (by decide) rfl E d_X10_knownBy_49 ?_
  refine wa_iload 4 rfl E d_X10_knownBy_50 ?_
  refine wa_istore_n (lv' := [(3, .int v5), (2, .int v4), (0, .ref (kf_ad G v0)), (1, .ref (kf_ad G v1)), (4, .int v4), (5, .int v5)]) rfl (by decide) rfl E d_X10_knownBy_52 ?_
  refine wa_sub [2, 3, 1, 0, 4] rfl ?_
  exact b_X10_knownBy_53 E hty hrec11 v0 v1 v4 v5 v4 k_v0 k_v1 σ h
def f_X10_knownBy_11_s (rec11 : Nat → Nat → Int32 → Int32 → Int32 → kf_St → Option (Int32 × kf_St)) (v0 : Nat) (v1 : Nat) (v2 : Int32) (v3 : Int32) (v4 : Int32) (σ : kf_St) : Option (Int32 × kf_St) :=
  if (σ.1 v0 1) ≤ v4 then
    some (v2, σ)
  else
    (f_X10_unlikeTo v0 v1 v4 σ).bind fun q_2 =>
    if q_2.1 < v3 then
      f_X10_knownBy_47 rec11 v0 v1 v4 q_2.1 q_2.2
    else
      if v2 = (-2) then
        if q_2.1 = v3 then
          f_X10_knownBy_47 rec11 v0 v1 v4 q_2.1 q_2.2
        else
          f_X10_knownBy_53 rec11 v0 v1 v2 v3 v4 q_2.2
      else
        f_X10_knownBy_53 rec11 v0 v1 v2 v3 v4 q_2.2
def f_X10_knownBy_11 : Nat → Nat → Nat → Int32 → Int32 → Int32 → kf_St → Option (Int32 × kf_St)
  | 0, _, _, _, _, _, _ => none
  | n + 1, v0, v1, v2, v3, v4, σ => f_X10_knownBy_11_s (f_X10_knownBy_11 n) v0 v1 v2 v3 v4 σ
set_option maxRecDepth 100000 in
set_option maxHeartbeats 4000000 in
theorem b_X10_knownBy_11_s {X : kf_X} {G : kf_G} (rec11 : Nat → Nat → Int32 → Int32 → Int32 → kf_St → Option (Int32 × kf_St)) {q : (Int32 × kf_St)} (E : kf_ok X G cX10_knownBy RX10 6 (some .int) (3)) (hty : kf_wt G) (hrec11 : ∀ (v0 : Nat) (v1 : Nat) (v2 : Int32) (v3 : Int32) (v4 : Int32) (k_v0 : kf_kd G v0 = 11) (k_v1 : kf_kd G v1 = 50) (σ : kf_St), rec11 v0 v1 v2 v3 v4 σ = some q → kf_WA X G 6 (kf_Q X G (some (.int q.1)) q.2) 11 [(0, .ref (kf_ad G v0)), (1, .ref (kf_ad G v1)), (2, .int v2), (3, .int v3), (4, .int v4)] [] σ) (v0 : Nat) (v1 : Nat) (v2 : Int32) (v3 : Int32) (v4 : Int32) (k_v0 : kf_kd G v0 = 11) (k_v1 : kf_kd G v1 = 50) (σ : kf_St) (h : f_X10_knownBy_11_s rec11 v0 v1 v2 v3 v4 σ = some q) : kf_WA X G 6 (kf_Q X G (some (.int q.1)) q.2) 11 [(0, .ref (kf_ad G v0)), (1, .ref (kf_ad G v1)), (2, .int v2), (3, .int v3), (4, .int v4)] [] σ := by
  unfold f_X10_knownBy_11_s at h
  refine wa_iload 4 rfl E d_X10_knownBy_11 ?_
  refine wa_aload_n 0 rfl E d_X10_knownBy_13 ?_
  refine wa_getI fl_X10_57 k_v0 rfl E d_X10_knownBy_14 ?_
  refine wa_icmp_ge E d_X10_knownBy_17 (fun c_1 => ?_) (fun c_1 => ?_)
  · replace h := kf_ift c_1 h
    refine wa_iload_n 2 rfl E d_X10_knownBy_59 ?_
    cases h
    exact wa_iret E d_X10_knownBy_60
  · replace h := kf_iff c_1 h
    refine wa_aload_n 0 rfl E d_X10_knownBy_20 ?_
    refine wa_aload_n 1 rfl E d_X10_knownBy_21 ?_
    refine wa_iload 4 rfl E d_X10_knownBy_22 ?_
    obtain ⟨q_2, hq_2, h⟩ := kf_bd h
    refine wa_callV (st2 := [.int q_2.1]) (c_X10_unlikeTo hty v0 v1 v4 k_v0 k_v1 σ hq_2) mv_X10_unlikeTo ml_X10_121 k_v0 rfl (Nat.le_of_ble_eq_true rfl) rfl (Nat.le_of_ble_eq_true rfl) E d_X10_knownBy_24 rfl ?_
    refine wa_istore (lv' := [(5, .int q_2.1), (0, .ref (kf_ad G v0)), (1, .ref (kf_ad G v1)), (2, .int v2), (3, .int v3), (4, .int v4)]) (by decide) rfl E d_X10_knownBy_27 ?_
    refine wa_iload 0 rfl E d_X10_knownBy_29 ?_
    refine wa_iload_n 4 rfl E d_X10_knownBy_31 ?_
    refine wa_icmp_lt E d_X10_knownBy_32 (fun c_3 => ?_) (fun c_3 => ?_)
    · replace h := kf_ift c_3 h
      refine wa_sub [1, 2, 5, 0] rfl ?_
      exact b_X10_knownBy_47 E hty hrec11 v0 v1 v4 q_2.1 k_v0 k_v1 q_2.2 h
    · replace h := kf_iff c_3 h
      refine wa_iload_n 3 rfl E d_X10_knownBy_35 ?_
      refine wa_bipush (-2) bp_m2 E d_X10_knownBy_36 ?_
      refine wa_icmp_ne E d_X10_knownBy_38 (fun c_4 => ?_) (fun c_4 => ?_)
      · replace h := kf_iff c_4 h
        refine wa_sub [1, 2, 3, 4, 5] rfl ?_
        exact b_X10_knownBy_53 E hty hrec11 v0 v1 v2 v3 v4 k_v0 k_v1 q_2.2 h
      · replace h := kf_ift c_4 h
        refine wa_iload 0 rfl E d_X10_knownBy_41 ?_
        refine wa_iload_n 4 rfl E d_X10_knownBy_43 ?_
        refine wa_icmp_ne E d_X10_knownBy_44 (fun c_5 => ?_) (fun c_5 => ?_)
        · replace h := kf_iff c_5 h
          refine wa_sub [1, 2, 3, 4, 5] rfl ?_
          exact b_X10_knownBy_53 E hty hrec11 v0 v1 v2 v3 v4 k_v0 k_v1 q_2.2 h
        · replace h := kf_ift c_5 h
          refine wa_sub [1, 2, 5, 0] rfl ?_
          exact b_X10_knownBy_47 E hty hrec11 v0 v1 v4 q_2.1 k_v0 k_v1 q_2.2 h
theorem b_X10_knownBy_11 {X : kf_X} {G : kf_G} {q : (Int32 × kf_St)} (E : kf_ok X G cX10_knownBy RX10 6 (some .int) (3)) (hty : kf_wt G) : ∀ (N : Nat) (v0 : Nat) (v1 : Nat) (v2 : Int32) (v3 : Int32) (v4 : Int32) (k_v0 : kf_kd G v0 = 11) (k_v1 : kf_kd G v1 = 50) (σ : kf_St) (_ : f_X10_knownBy_11 N v0 v1 v2 v3 v4 σ = some q), kf_WA X G 6 (kf_Q X G (some (.int q.1)) q.2) 11 [(0, .ref (kf_ad G v0)), (1, .ref (kf_ad G v1)), (2, .int v2), (3, .int v3), (4, .int v4)] [] σ
  | 0, _, _, _, _, _, _, _, _, h => by cases h
  | N + 1, v0, v1, v2, v3, v4, k_v0, k_v1, σ, h => b_X10_knownBy_11_s _ E hty (b_X10_knownBy_11 E hty N) v0 v1 v2 v3 v4 k_v0 k_v1 σ h
def f_X10_knownBy (v0 : Nat) (v1 : Nat) (σ : kf_St) : Option (Int32 × kf_St) :=
  kf_lt ((σ.1 v0 4)) fun v3_1 =>
  f_X10_knownBy_11 kf_F v0 v1 (-2) v3_1 0 σ
set_option maxRecDepth 100000 in
set_option maxHeartbeats 4000000 in
theorem c_X10_knownBy {G : kf_G} (hty : kf_wt G) (v0 : Nat) (v1 : Nat) (k_v0 : kf_kd G v0 = 11) (k_v1 : kf_kd G v1 = 50) (σ : kf_St) {q : (Int32 × kf_St)} (h : f_X10_knownBy v0 v1 σ = some q) : kf_Ct (3) yX10_knownBy cX10_knownBy 6 (some .int) G [.ref (kf_ad G v0), .ref (kf_ad G v1)] σ (some (.int q.1)) q.2 := by
  refine kf_Ct.of hty.1 (lv := [(0, .ref (kf_ad G v0)), (1, .ref (kf_ad G v1))]) (by decide +kernel) rfl (Nat.le_of_ble_eq_true rfl) (fun X E => ?_)
  unfold f_X10_knownBy at h
  refine wa_bipush (-2) bp_m2 E d_X10_knownBy_0 ?_
  refine wa_istore_n (lv' := [(2, .int (-2)), (0, .ref (kf_ad G v0)), (1, .ref (kf_ad G v1))]) rfl (by decide) rfl E d_X10_knownBy_2 ?_
  refine wa_aload_n 1 rfl E d_X10_knownBy_3 ?_
  refine wa_getI fl_X10_66 k_v0 rfl E d_X10_knownBy_4 ?_
  obtain ⟨v3_1, ev3_1, h⟩ := kf_lte h
  refine wa_topi ev3_1 ?_
  refine wa_istore_n (lv' := [(3, .int v3_1), (2, .int (-2)), (0, .ref (kf_ad G v0)), (1, .ref (kf_ad G v1))]) rfl (by decide) rfl E d_X10_knownBy_7 ?_
  refine wa_iconst 0 ic_0 E d_X10_knownBy_8 ?_
  refine wa_istore (lv' := [(4, .int 0), (3, .int v3_1), (2, .int (-2)), (0, .ref (kf_ad G v0)), (1, .ref (kf_ad G v1))]) (by decide) rfl E d_X10_knownBy_9 ?_
  refine wa_sub [3, 4, 2, 1, 0] rfl ?_
  exact b_X10_knownBy_11 E hty kf_F v0 v1 (-2) v3_1 0 k_v0 k_v1 σ h
/-! X0_firstDay -/
theorem d_X0_firstDay_0 : kf_dq cX0_firstDay 0 1 1 (.aload_n 0) := ⟨by decide +kernel, rfl⟩
theorem d_X0_firstDay_1 : kf_dq cX0_firstDay 1 4 3 (.getfield 26) := ⟨by decide +kernel, rfl⟩
theorem d_X0_firstDay_4 : kf_dq cX0_firstDay 4 5 1 (.aload_n 0) := ⟨by decide +kernel, rfl⟩
theorem d_X0_firstDay_5 : kf_dq cX0_firstDay 5 8 3 (.getfield 15) := ⟨by decide +kernel, rfl⟩
theorem d_X0_firstDay_8 : kf_dq cX0_firstDay 8 11 3 (.getfield 34) := ⟨by decide +kernel, rfl⟩
theorem d_X0_firstDay_11 : kf_dq cX0_firstDay 11 12 1 (.iload_n 1) := ⟨by decide +kernel, rfl⟩
theorem d_X0_firstDay_12 : kf_dq cX0_firstDay 12 13 1 (.aaload) := ⟨by decide +kernel, rfl⟩
theorem d_X0_firstDay_13 : kf_dq cX0_firstDay 13 16 3 (.invokevirtual 40) := ⟨by decide +kernel, rfl⟩
theorem d_X0_firstDay_16 : kf_dq cX0_firstDay 16 17 1 (.iconst 0) := ⟨by decide +kernel, rfl⟩
theorem d_X0_firstDay_17 : kf_dq cX0_firstDay 17 19 2 (.istore 4) := ⟨by decide +kernel, rfl⟩
theorem d_X0_firstDay_19 : kf_dq cX0_firstDay 19 21 2 (.iload 4) := ⟨by decide +kernel, rfl⟩
theorem d_X0_firstDay_21 : kf_dq cX0_firstDay 21 23 2 (.bipush 60) := ⟨by decide +kernel, rfl⟩
theorem d_X0_firstDay_23 : kf_dj cX0_firstDay 23 26 92 (.if_icmp .gt) := ⟨69, by decide +kernel, rfl, by decide⟩
theorem d_X0_firstDay_26 : kf_dq cX0_firstDay 26 27 1 (.aload_n 0) := ⟨by decide +kernel, rfl⟩
theorem d_X0_firstDay_27 : kf_dq cX0_firstDay 27 30 3 (.getfield 9) := ⟨by decide +kernel, rfl⟩
theorem d_X0_firstDay_30 : kf_dq cX0_firstDay 30 31 1 (.aload_n 0) := ⟨by decide +kernel, rfl⟩
theorem d_X0_firstDay_31 : kf_dq cX0_firstDay 31 34 3 (.getfield 26) := ⟨by decide +kernel, rfl⟩
theorem d_X0_firstDay_34 : kf_dq cX0_firstDay 34 37 3 (.getfield 54) := ⟨by decide +kernel, rfl⟩
theorem d_X0_firstDay_37 : kf_dq cX0_firstDay 37 40 3 (.invokevirtual 57) := ⟨by decide +kernel, rfl⟩
theorem d_X0_firstDay_40 : kf_dq cX0_firstDay 40 41 1 (.iload_n 2) := ⟨by decide +kernel, rfl⟩
theorem d_X0_firstDay_41 : kf_dj cX0_firstDay 41 44 48 (.if_icmp .ne) := ⟨7, by decide +kernel, rfl, by decide⟩
theorem d_X0_firstDay_44 : kf_dq cX0_firstDay 44 45 1 (.iconst 1) := ⟨by decide +kernel, rfl⟩
theorem d_X0_firstDay_45 : kf_dj cX0_firstDay 45 48 49 .goto := ⟨4, by decide +kernel, rfl, by decide⟩
theorem d_X0_firstDay_48 : kf_dq cX0_firstDay 48 49 1 (.iconst 0) := ⟨by decide +kernel, rfl⟩
theorem d_X0_firstDay_49 : kf_dq cX0_firstDay 49 50 1 (.iload_n 3) := ⟨by decide +kernel, rfl⟩
theorem d_X0_firstDay_50 : kf_dj cX0_firstDay 50 53 56 (.if_icmp .ne) := ⟨6, by decide +kernel, rfl, by decide⟩
theorem d_X0_firstDay_53 : kf_dq cX0_firstDay 53 55 2 (.iload 4) := ⟨by decide +kernel, rfl⟩
theorem d_X0_firstDay_55 : kf_dq cX0_firstDay 55 56 1 (.ireturn) := ⟨by decide +kernel, rfl⟩
theorem d_X0_firstDay_56 : kf_dq cX0_firstDay 56 57 1 (.aload_n 0) := ⟨by decide +kernel, rfl⟩
theorem d_X0_firstDay_57 : kf_dq cX0_firstDay 57 60 3 (.getfield 19) := ⟨by decide +kernel, rfl⟩
theorem d_X0_firstDay_60 : kf_dq cX0_firstDay 60 61 1 (.aload_n 0) := ⟨by decide +kernel, rfl⟩
theorem d_X0_firstDay_61 : kf_dq cX0_firstDay 61 64 3 (.getfield 26) := ⟨by decide +kernel, rfl⟩
theorem d_X0_firstDay_64 : kf_dq cX0_firstDay 64 65 1 (.iload_n 1) := ⟨by decide +kernel, rfl⟩
theorem d_X0_firstDay_65 : kf_dq cX0_firstDay 65 66 1 (.aload_n 0) := ⟨by decide +kernel, rfl⟩
theorem d_X0_firstDay_66 : kf_dq cX0_firstDay 66 69 3 (.getfield 15) := ⟨by decide +kernel, rfl⟩
theorem d_X0_firstDay_69 : kf_dq cX0_firstDay 69 72 3 (.getfield 44) := ⟨by decide +kernel, rfl⟩
theorem d_X0_firstDay_72 : kf_dq cX0_firstDay 72 74 2 (.iload 4) := ⟨by decide +kernel, rfl⟩
theorem d_X0_firstDay_74 : kf_dq cX0_firstDay 74 75 1 (.iadd) := ⟨by decide +kernel, rfl⟩
theorem d_X0_firstDay_75 : kf_dq cX0_firstDay 75 76 1 (.aload_n 0) := ⟨by decide +kernel, rfl⟩
theorem d_X0_firstDay_76 : kf_dq cX0_firstDay 76 79 3 (.getfield 15) := ⟨by decide +kernel, rfl⟩
theorem d_X0_firstDay_79 : kf_dq cX0_firstDay 79 82 3 (.getfield 63) := ⟨by decide +kernel, rfl⟩
theorem d_X0_firstDay_82 : kf_dq cX0_firstDay 82 83 1 (.iconst (-1)) := ⟨by decide +kernel, rfl⟩
theorem d_X0_firstDay_83 : kf_dq cX0_firstDay 83 86 3 (.invokevirtual 48) := ⟨by decide +kernel, rfl⟩
theorem d_X0_firstDay_86 : kf_dq cX0_firstDay 86 89 3 (.iinc 4 1) := ⟨by decide +kernel, rfl⟩
theorem d_X0_firstDay_89 : kf_dj cX0_firstDay 89 92 19 .goto := ⟨(-70), by decide +kernel, rfl, by decide⟩
theorem d_X0_firstDay_92 : kf_dq cX0_firstDay 92 94 2 (.bipush (-2)) := ⟨by decide +kernel, rfl⟩
theorem d_X0_firstDay_94 : kf_dq cX0_firstDay 94 95 1 (.ireturn) := ⟨by decide +kernel, rfl⟩
def f_X0_firstDay_49 (rec19 : Nat → Int32 → Int32 → Int32 → Int32 → kf_St → Option (Int32 × kf_St)) (v0 : Nat) (v1 : Int32) (v2 : Int32) (v3 : Int32) (v4 : Int32) (s0 : Int32) (σ : kf_St) : Option (Int32 × kf_St) :=
  if s0 = v3 then
    some (v4, σ)
  else
    (f_X4_passDay (kf_rf v0 2) (kf_rf v0 3) v1 ((σ.1 (kf_rf v0 1) 3) + v4) (σ.1 (kf_rf v0 1) 2) (-1) σ).bind fun q_2 =>
    kf_lt (v4 + 1) fun v4_3 =>
    rec19 v0 v1 v2 v3 v4_3 q_2
set_option maxRecDepth 100000 in
set_option maxHeartbeats 4000000 in
theorem b_X0_firstDay_49 {X : kf_X} {G : kf_G} {rec19 : Nat → Int32 → Int32 → Int32 → Int32 → kf_St → Option (Int32 × kf_St)} {q : (Int32 × kf_St)} (E : kf_ok X G cX0_firstDay RX0 5 (some .int) (7)) (hty : kf_wt G) (hrec19 : ∀ (v0 : Nat) (v1 : Int32) (v2 : Int32) (v3 : Int32) (v4 : Int32) (k_v0 : kf_kd G v0 = 1) (σ : kf_St), rec19 v0 v1 v2 v3 v4 σ = some q → kf_WA X G 5 (kf_Q X G (some (.int q.1)) q.2) 19 [(0, .ref (kf_ad G v0)), (1, .int v1), (2, .int v2), (3, .int v3), (4, .int v4)] [] σ) (v0 : Nat) (v1 : Int32) (v2 : Int32) (v3 : Int32) (v4 : Int32) (s0 : Int32) (k_v0 : kf_kd G v0 = 1) (σ : kf_St) (h : f_X0_firstDay_49 rec19 v0 v1 v2 v3 v4 s0 σ = some q) : kf_WA X G 5 (kf_Q X G (some (.int q.1)) q.2) 49 [(0, .ref (kf_ad G v0)), (1, .int v1), (2, .int v2), (3, .int v3), (4, .int v4)] [.int s0] σ := by
  unfold f_X0_firstDay_49 at h
  refine wa_iload_n 3 rfl E d_X0_firstDay_49 ?_
  refine wa_icmp_ne E d_X0_firstDay_50 (fun c_1 => ?_) (fun c_1 => ?_)
  · replace h := kf_iff c_1 h
    refine wa_aload_n 0 rfl E d_X0_firstDay_56 ?_
    refine wa_getR fl_X0_19 k_v0 rfl E d_X0_firstDay_57 ?_
    refine wa_aload_n 0 rfl E d_X0_firstDay_60 ?_
    refine wa_getR fl_X0_26 k_v0 rfl E d_X0_firstDay_61 ?_
    refine wa_iload_n 1 rfl E d_X0_firstDay_64 ?_
    refine wa_aload_n 0 rfl E d_X0_firstDay_65 ?_
    refine wa_getR fl_X0_15 k_v0 rfl E d_X0_firstDay_66 ?_
    refine wa_getI fl_X0_44 (kf_wtf hty 1 7 k_v0 (by decide) rfl) rfl E d_X0_firstDay_69 ?_
    refine wa_iload 4 rfl E d_X0_firstDay_72 ?_
    refine wa_iadd E d_X0_firstDay_74 ?_
    refine wa_aload_n 0 rfl E d_X0_firstDay_75 ?_
    refine wa_getR fl_X0_15 k_v0 rfl E d_X0_firstDay_76 ?_
    refine wa_getI fl_X0_63 (kf_wtf hty 1 7 k_v0 (by decide) rfl) rfl E d_X0_firstDay_79 ?_
    refine wa_iconst (-1) ic_m1 E d_X0_firstDay_82 ?_
    obtain ⟨q_2, hq_2, h⟩ := kf_bd h
    refine wa_callV (st2 := []) (c_X4_passDay hty (kf_rf v0 2) (kf_rf v0 3) v1 ((σ.1 (kf_rf v0 1) 3) + v4) (σ.1 (kf_rf v0 1) 2) (-1) (kf_wtf hty 2 4 k_v0 (by decide) rfl) (kf_wtf hty 3 1 k_v0 (by decide) rfl) σ hq_2) mv_X4_passDay ml_X0_48 (kf_wtf hty 2 4 k_v0 (by decide) rfl) rfl (Nat.le_of_ble_eq_true rfl) rfl (Nat.le_of_ble_eq_true rfl) E d_X0_firstDay_83 rfl ?_
    obtain ⟨v4_3, ev4_3, h⟩ := kf_lte h
    refine wa_iinc (lv' := [(4, .int v4_3), (0, .ref (kf_ad G v0)), (1, .int v1), (2, .int v2), (3, .int v3)]) v4_3 4 rfl (kf_inc ic_1 ev4_3) (by decide) rfl E d_X0_firstDay_86 ?_
    refine wa_goto E d_X0_firstDay_89 ?_
    refine wa_sub [1, 2, 3, 4, 0] rfl ?_
    exact hrec19 v0 v1 v2 v3 v4_3 k_v0 q_2 h
  · replace h := kf_ift c_1 h
    refine wa_iload 4 rfl E d_X0_firstDay_53 ?_
    cases h
    exact wa_iret E d_X0_firstDay_55
def f_X0_firstDay_19_s (rec19 : Nat → Int32 → Int32 → Int32 → Int32 → kf_St → Option (Int32 × kf_St)) (v0 : Nat) (v1 : Int32) (v2 : Int32) (v3 : Int32) (v4 : Int32) (σ : kf_St) : Option (Int32 × kf_St) :=
  if 60 < v4 then
    some ((-2), σ)
  else
    (f_X10_knownBy (kf_rf v0 0) (kf_rf (kf_rf v0 3) 0) σ).bind fun q_2 =>
    if q_2.1 = v2 then
      f_X0_firstDay_49 rec19 v0 v1 v2 v3 v4 1 q_2.2
    else
      f_X0_firstDay_49 rec19 v0 v1 v2 v3 v4 0 q_2.2
def f_X0_firstDay_19 : Nat → Nat → Int32 → Int32 → Int32 → Int32 → kf_St → Option (Int32 × kf_St)
  | 0, _, _, _, _, _, _ => none
  | n + 1, v0, v1, v2, v3, v4, σ => f_X0_firstDay_19_s (f_X0_firstDay_19 n) v0 v1 v2 v3 v4 σ
set_option maxRecDepth 100000 in
set_option maxHeartbeats 4000000 in
theorem b_X0_firstDay_19_s {X : kf_X} {G : kf_G} (rec19 : Nat → Int32 → Int32 → Int32 → Int32 → kf_St → Option (Int32 × kf_St)) {q : (Int32 × kf_St)} (E : kf_ok X G cX0_firstDay RX0 5 (some .int) (7)) (hty : kf_wt G) (hrec19 : ∀ (v0 : Nat) (v1 : Int32) (v2 : Int32) (v3 : Int32) (v4 : Int32) (k_v0 : kf_kd G v0 = 1) (σ : kf_St), rec19 v0 v1 v2 v3 v4 σ = some q → kf_WA X G 5 (kf_Q X G (some (.int q.1)) q.2) 19 [(0, .ref (kf_ad G v0)), (1, .int v1), (2, .int v2), (3, .int v3), (4, .int v4)] [] σ) (v0 : Nat) (v1 : Int32) (v2 : Int32) (v3 : Int32) (v4 : Int32) (k_v0 : kf_kd G v0 = 1) (σ : kf_St) (h : f_X0_firstDay_19_s rec19 v0 v1 v2 v3 v4 σ = some q) : kf_WA X G 5 (kf_Q X G (some (.int q.1)) q.2) 19 [(0, .ref (kf_ad G v0)), (1, .int v1), (2, .int v2), (3, .int v3), (4, .int v4)] [] σ := by
  unfold f_X0_firstDay_19_s at h
  refine wa_iload 4 rfl E d_X0_firstDay_19 ?_
  refine wa_bipush 60 bp_60 E d_X0_firstDay_21 ?_
  refine wa_icmp_gt E d_X0_firstDay_23 (fun c_1 => ?_) (fun c_1 => ?_)
  · replace h := kf_ift c_1 h
    refine wa_bipush (-2) bp_m2 E d_X0_firstDay_92 ?_
    cases h
    exact wa_iret E d_X0_firstDay_94
  · replace h := kf_iff c_1 h
    refine wa_aload_n 0 rfl E d_X0_firstDay_26 ?_
    refine wa_getR fl_X0_9 k_v0 rfl E d_X0_firstDay_27 ?_
    refine wa_aload_n 0 rfl E d_X0_firstDay_30 ?_
    refine wa_getR fl_X0_26 k_v0 rfl E d_X0_firstDay_31 ?_
    refine wa_getR fl_X0_54 (kf_wtf hty 3 1 k_v0 (by decide) rfl) rfl E d_X0_firstDay_34 ?_
    obtain ⟨q_2, hq_2, h⟩ := kf_bd h
    refine wa_callV (st2 := [.int q_2.1]) (c_X10_knownBy hty (kf_rf v0 0) (kf_rf (kf_rf v0 3) 0) (kf_wtf hty 0 10 k_v0 (by decide) rfl) (kf_wtf hty 0 49 (kf_wtf hty 3 1 k_v0 (by decide) rfl) (by decide) rfl) σ hq_2) mv_X10_knownBy ml_X0_57 (kf_wtf hty 0 10 k_v0 (by decide) rfl) rfl (Nat.le_of_ble_eq_true rfl) rfl (Nat.le_of_ble_eq_true rfl) E d_X0_firstDay_37 rfl ?_
    refine wa_iload_n 2 rfl E d_X0_firstDay_40 ?_
    refine wa_icmp_ne E d_X0_firstDay_41 (fun c_3 => ?_) (fun c_3 => ?_)
    · replace h := kf_iff c_3 h
      refine wa_iconst 0 ic_0 E d_X0_firstDay_48 ?_
      exact b_X0_firstDay_49 E hty hrec19 v0 v1 v2 v3 v4 0 k_v0 q_2.2 h
    · replace h := kf_ift c_3 h
      refine wa_iconst 1 ic_1 E d_X0_firstDay_44 ?_
      refine wa_goto E d_X0_firstDay_45 ?_
      exact b_X0_firstDay_49 E hty hrec19 v0 v1 v2 v3 v4 1 k_v0 q_2.2 h
theorem b_X0_firstDay_19 {X : kf_X} {G : kf_G} {q : (Int32 × kf_St)} (E : kf_ok X G cX0_firstDay RX0 5 (some .int) (7)) (hty : kf_wt G) : ∀ (N : Nat) (v0 : Nat) (v1 : Int32) (v2 : Int32) (v3 : Int32) (v4 : Int32) (k_v0 : kf_kd G v0 = 1) (σ : kf_St) (_ : f_X0_firstDay_19 N v0 v1 v2 v3 v4 σ = some q), kf_WA X G 5 (kf_Q X G (some (.int q.1)) q.2) 19 [(0, .ref (kf_ad G v0)), (1, .int v1), (2, .int v2), (3, .int v3), (4, .int v4)] [] σ
  | 0, _, _, _, _, _, _, _, h => by cases h
  | N + 1, v0, v1, v2, v3, v4, k_v0, σ, h => b_X0_firstDay_19_s _ E hty (b_X0_firstDay_19 E hty N) v0 v1 v2 v3 v4 k_v0 σ h
def f_X0_firstDay (v0 : Nat) (v1 : Int32) (v2 : Int32) (v3 : Int32) (σ : kf_St) : Option (Int32 × kf_St) :=
  if kf_ix v1 (kf_ln (kf_rf (kf_rf v0 1) 0)) = true then
  (f_X1_become (kf_rf v0 3) (kf_rf (kf_rf (kf_rf v0 1) 0) (Int32.toNatClampNeg v1)) σ).bind fun q_2 =>
  f_X0_firstDay_19 kf_F v0 v1 v2 v3 0 q_2
  else none
set_option maxRecDepth 100000 in
set_option maxHeartbeats 4000000 in
theorem c_X0_firstDay {G : kf_G} (hty : kf_wt G) (v0 : Nat) (v1 : Int32) (v2 : Int32) (v3 : Int32) (k_v0 : kf_kd G v0 = 1) (σ : kf_St) {q : (Int32 × kf_St)} (h : f_X0_firstDay v0 v1 v2 v3 σ = some q) : kf_Ct (7) yX0_firstDay cX0_firstDay 5 (some .int) G [.ref (kf_ad G v0), .int v1, .int v2, .int v3] σ (some (.int q.1)) q.2 := by
  refine kf_Ct.of hty.1 (lv := [(0, .ref (kf_ad G v0)), (1, .int v1), (2, .int v2), (3, .int v3)]) (by decide +kernel) rfl (Nat.le_of_ble_eq_true rfl) (fun X E => ?_)
  unfold f_X0_firstDay at h
  refine wa_aload_n 0 rfl E d_X0_firstDay_0 ?_
  refine wa_getR fl_X0_26 k_v0 rfl E d_X0_firstDay_1 ?_
  refine wa_aload_n 0 rfl E d_X0_firstDay_4 ?_
  refine wa_getR fl_X0_15 k_v0 rfl E d_X0_firstDay_5 ?_
  refine wa_getR fl_X0_34 (kf_wtf hty 1 7 k_v0 (by decide) rfl) rfl E d_X0_firstDay_8 ?_
  refine wa_iload_n 1 rfl E d_X0_firstDay_11 ?_
  obtain ⟨g_1, h⟩ := kf_gd h
  refine wa_aald (kf_wtf hty 0 53 (kf_wtf hty 1 7 k_v0 (by decide) rfl) (by decide) rfl) g_1 E d_X0_firstDay_12 ?_
  obtain ⟨q_2, hq_2, h⟩ := kf_bd h
  refine wa_callV (st2 := []) (c_X1_become hty (kf_rf v0 3) (kf_rf (kf_rf (kf_rf v0 1) 0) (Int32.toNatClampNeg v1)) (kf_wtf hty 3 1 k_v0 (by decide) rfl) (kf_wta hty (kf_wtf hty 0 53 (kf_wtf hty 1 7 k_v0 (by decide) rfl) (by decide) rfl) g_1) σ hq_2) mv_X1_become ml_X0_40 (kf_wtf hty 3 1 k_v0 (by decide) rfl) rfl (Nat.le_of_ble_eq_true rfl) rfl (Nat.le_of_ble_eq_true rfl) E d_X0_firstDay_13 rfl ?_
  refine wa_iconst 0 ic_0 E d_X0_firstDay_16 ?_
  refine wa_istore (lv' := [(4, .int 0), (0, .ref (kf_ad G v0)), (1, .int v1), (2, .int v2), (3, .int v3)]) (by decide) rfl E d_X0_firstDay_17 ?_
  refine wa_sub [1, 2, 3, 4, 0] rfl ?_
  exact b_X0_firstDay_19 E hty kf_F v0 v1 v2 v3 0 k_v0 q_2 h
/-! X4_rub -/
theorem d_X4_rub_0 : kf_dq cX4_rub 0 1 1 (.iconst 0) := ⟨by decide +kernel, rfl⟩
theorem d_X4_rub_1 : kf_dq cX4_rub 1 2 1 (.istore_n 3) := ⟨by decide +kernel, rfl⟩
theorem d_X4_rub_2 : kf_dq cX4_rub 2 3 1 (.iload_n 3) := ⟨by decide +kernel, rfl⟩
theorem d_X4_rub_3 : kf_dq cX4_rub 3 4 1 (.iconst 4) := ⟨by decide +kernel, rfl⟩
theorem d_X4_rub_4 : kf_dj cX4_rub 4 7 48 (.if_icmp .ge) := ⟨44, by decide +kernel, rfl, by decide⟩
theorem d_X4_rub_7 : kf_dq cX4_rub 7 8 1 (.aload_n 0) := ⟨by decide +kernel, rfl⟩
theorem d_X4_rub_8 : kf_dq cX4_rub 8 11 3 (.getfield 9) := ⟨by decide +kernel, rfl⟩
theorem d_X4_rub_11 : kf_dq cX4_rub 11 14 3 (.getfield 102) := ⟨by decide +kernel, rfl⟩
theorem d_X4_rub_14 : kf_dq cX4_rub 14 15 1 (.iconst 4) := ⟨by decide +kernel, rfl⟩
theorem d_X4_rub_15 : kf_dq cX4_rub 15 16 1 (.iload_n 2) := ⟨by decide +kernel, rfl⟩
theorem d_X4_rub_16 : kf_dq cX4_rub 16 17 1 (.imul) := ⟨by decide +kernel, rfl⟩
theorem d_X4_rub_17 : kf_dq cX4_rub 17 18 1 (.iload_n 3) := ⟨by decide +kernel, rfl⟩
theorem d_X4_rub_18 : kf_dq cX4_rub 18 19 1 (.iadd) := ⟨by decide +kernel, rfl⟩
theorem d_X4_rub_19 : kf_dq cX4_rub 19 20 1 (.iaload) := ⟨by decide +kernel, rfl⟩
theorem d_X4_rub_20 : kf_dq cX4_rub 20 21 1 (.aload_n 1) := ⟨by decide +kernel, rfl⟩
theorem d_X4_rub_21 : kf_dq cX4_rub 21 24 3 (.getfield 36) := ⟨by decide +kernel, rfl⟩
theorem d_X4_rub_24 : kf_dq cX4_rub 24 25 1 (.iload_n 3) := ⟨by decide +kernel, rfl⟩
theorem d_X4_rub_25 : kf_dq cX4_rub 25 26 1 (.iaload) := ⟨by decide +kernel, rfl⟩
theorem d_X4_rub_26 : kf_dq cX4_rub 26 27 1 (.isub) := ⟨by decide +kernel, rfl⟩
theorem d_X4_rub_27 : kf_dq cX4_rub 27 29 2 (.istore 4) := ⟨by decide +kernel, rfl⟩
theorem d_X4_rub_29 : kf_dq cX4_rub 29 30 1 (.aload_n 1) := ⟨by decide +kernel, rfl⟩
theorem d_X4_rub_30 : kf_dq cX4_rub 30 33 3 (.getfield 36) := ⟨by decide +kernel, rfl⟩
theorem d_X4_rub_33 : kf_dq cX4_rub 33 34 1 (.iload_n 3) := ⟨by decide +kernel, rfl⟩
theorem d_X4_rub_34 : kf_dq cX4_rub 34 35 1 (.dup2) := ⟨by decide +kernel, rfl⟩
theorem d_X4_rub_35 : kf_dq cX4_rub 35 36 1 (.iaload) := ⟨by decide +kernel, rfl⟩
theorem d_X4_rub_36 : kf_dq cX4_rub 36 38 2 (.iload 4) := ⟨by decide +kernel, rfl⟩
theorem d_X4_rub_38 : kf_dq cX4_rub 38 39 1 (.iconst 2) := ⟨by decide +kernel, rfl⟩
theorem d_X4_rub_39 : kf_dq cX4_rub 39 40 1 (.idiv) := ⟨by decide +kernel, rfl⟩
theorem d_X4_rub_40 : kf_dq cX4_rub 40 41 1 (.iadd) := ⟨by decide +kernel, rfl⟩
theorem d_X4_rub_41 : kf_dq cX4_rub 41 42 1 (.iastore) := ⟨by decide +kernel, rfl⟩
theorem d_X4_rub_42 : kf_dq cX4_rub 42 45 3 (.iinc 3 1) := ⟨by decide +kernel, rfl⟩
theorem d_X4_rub_45 : kf_dj cX4_rub 45 48 2 .goto := ⟨(-43), by decide +kernel, rfl, by decide⟩
theorem d_X4_rub_48 : kf_dq cX4_rub 48 49 1 (.aload_n 1) := ⟨by decide +kernel, rfl⟩
theorem d_X4_rub_49 : kf_dq cX4_rub 49 50 1 (.dup) := ⟨by decide +kernel, rfl⟩
theorem d_X4_rub_50 : kf_dq cX4_rub 50 53 3 (.getfield 33) := ⟨by decide +kernel, rfl⟩
theorem d_X4_rub_53 : kf_dq cX4_rub 53 54 1 (.iconst 1) := ⟨by decide +kernel, rfl⟩
theorem d_X4_rub_54 : kf_dq cX4_rub 54 55 1 (.iadd) := ⟨by decide +kernel, rfl⟩
theorem d_X4_rub_55 : kf_dq cX4_rub 55 58 3 (.putfield 33) := ⟨by decide +kernel, rfl⟩
theorem d_X4_rub_58 : kf_dq cX4_rub 58 59 1 (.return_) := ⟨by decide +kernel, rfl⟩
def f_X4_rub_2_s (rec2 : Nat → Nat → Int32 → Int32 → kf_St → Option kf_St) (v0 : Nat) (v1 : Nat) (v2 : Int32) (v3 : Int32) (σ : kf_St) : Option kf_St :=
  if 4 ≤ v3 then
    kf_lt (kf_wi σ v1 3 ((σ.1 v1 3) + 1)) fun σ_2 =>
    some σ_2
  else
    if kf_ix ((4 * v2) + v3) (kf_ln (kf_rf (kf_rf v0 0) 8)) = true then
    if kf_ix v3 (kf_ln (kf_rf v1 0)) = true then
    kf_lt (((σ.1 (kf_rf (kf_rf v0 0) 8) (Int32.toNatClampNeg ((4 * v2) + v3))) - (σ.1 (kf_rf v1 0) (Int32.toNatClampNeg v3)))) fun v4_5 =>
    if kf_ix v3 (kf_ln (kf_rf v1 0)) = true then
    if (2 : Int32) = 0 then none else
    if kf_ix v3 (kf_ln (kf_rf v1 0)) = true then
    kf_lt (kf_wi σ (kf_rf v1 0) (Int32.toNatClampNeg v3) ((σ.1 (kf_rf v1 0) (Int32.toNatClampNeg v3)) + (v4_5 / 2))) fun σ_9 =>
    kf_lt (v3 + 1) fun v3_10 =>
    rec2 v0 v1 v2 v3_10 σ_9
    else none
    else none
    else none
    else none
def f_X4_rub_2 : Nat → Nat → Nat → Int32 → Int32 → kf_St → Option kf_St
  | 0, _, _, _, _, _ => none
  | n + 1, v0, v1, v2, v3, σ => f_X4_rub_2_s (f_X4_rub_2 n) v0 v1 v2 v3 σ
set_option maxRecDepth 100000 in
set_option maxHeartbeats 4000000 in
theorem b_X4_rub_2_s {X : kf_X} {G : kf_G} (rec2 : Nat → Nat → Int32 → Int32 → kf_St → Option kf_St) {q : kf_St} (E : kf_ok X G cX4_rub RX4 5 none (1)) (hty : kf_wt G) (hrec2 : ∀ (v0 : Nat) (v1 : Nat) (v2 : Int32) (v3 : Int32) (k_v0 : kf_kd G v0 = 5) (k_v1 : kf_kd G v1 = 2) (σ : kf_St), rec2 v0 v1 v2 v3 σ = some q → kf_WA X G 5 (kf_Q X G none q) 2 [(0, .ref (kf_ad G v0)), (1, .ref (kf_ad G v1)), (2, .int v2), (3, .int v3)] [] σ) (v0 : Nat) (v1 : Nat) (v2 : Int32) (v3 : Int32) (k_v0 : kf_kd G v0 = 5) (k_v1 : kf_kd G v1 = 2) (σ : kf_St) (h : f_X4_rub_2_s rec2 v0 v1 v2 v3 σ = some q) : kf_WA X G 5 (kf_Q X G none q) 2 [(0, .ref (kf_ad G v0)), (1, .ref (kf_ad G v1)), (2, .int v2), (3, .int v3)] [] σ := by
  unfold f_X4_rub_2_s at h
  refine wa_iload_n 3 rfl E d_X4_rub_2 ?_
  refine wa_iconst 4 ic_4 E d_X4_rub_3 ?_
  refine wa_icmp_ge E d_X4_rub_4 (fun c_1 => ?_) (fun c_1 => ?_)
  · replace h := kf_ift c_1 h
    refine wa_aload_n 1 rfl E d_X4_rub_48 ?_
    refine wa_dup rfl E d_X4_rub_49 ?_
    refine wa_getI fl_X4_33 k_v1 rfl E d_X4_rub_50 ?_
    refine wa_iconst 1 ic_1 E d_X4_rub_53 ?_
    refine wa_iadd E d_X4_rub_54 ?_
    obtain ⟨σ_2, eσ_2, h⟩ := kf_lte h
    refine wa_putI fl_X4_33 fp_1_3 k_v1 rfl (by decide) rfl rfl E d_X4_rub_55 eσ_2 ?_
    cases h
    exact wa_vret E d_X4_rub_58
  · replace h := kf_iff c_1 h
    refine wa_aload_n 0 rfl E d_X4_rub_7 ?_
    refine wa_getR fl_X4_9 k_v0 rfl E d_X4_rub_8 ?_
    refine wa_getR fl_X4_102 (kf_wtf hty 0 10 k_v0 (by decide) rfl) rfl E d_X4_rub_11 ?_
    refine wa_iconst 4 ic_4 E d_X4_rub_14 ?_
    refine wa_iload_n 2 rfl E d_X4_rub_15 ?_
    refine wa_imul E d_X4_rub_16 ?_
    refine wa_iload_n 3 rfl E d_X4_rub_17 ?_
    refine wa_iadd E d_X4_rub_18 ?_
    obtain ⟨g_3, h⟩ := kf_gd h
    refine wa_iald (kf_wtf hty 8 49 (kf_wtf hty 0 10 k_v0 (by decide) rfl) (by decide) rfl) g_3 E d_X4_rub_19 ?_
    refine wa_aload_n 1 rfl E d_X4_rub_20 ?_
    refine wa_getR fl_X4_36 k_v1 rfl E d_X4_rub_21 ?_
    refine wa_iload_n 3 rfl E d_X4_rub_24 ?_
    obtain ⟨g_4, h⟩ := kf_gd h
    refine wa_iald (kf_wtf hty 0 49 k_v1 (by decide) rfl) g_4 E d_X4_rub_25 ?_
    refine wa_isub E d_X4_rub_26 ?_
    obtain ⟨v4_5, ev4_5, h⟩ := kf_lte h
    refine wa_topi ev4_5 ?_
    refine wa_istore (lv' := [(4, .int v4_5), (0, .ref (kf_ad G v0)), (1, .ref (kf_ad G v1)), (2, .int v2), (3, .int v3)]) (by decide) rfl E d_X4_rub_27 ?_
    refine wa_aload_n 2 rfl E d_X4_rub_29 ?_
    refine wa_getR fl_X4_36 k_v1 rfl E d_X4_rub_30 ?_
    refine wa_iload_n 4 rfl E d_X4_rub_33 ?_
    refine wa_dup2 rfl rfl E d_X4_rub_34 ?_
    obtain ⟨g_6, h⟩ := kf_gd h
    refine wa_iald (kf_wtf hty 0 49 k_v1 (by decide) rfl) g_6 E d_X4_rub_35 ?_
    refine wa_iload 0 rfl E d_X4_rub_36 ?_
    refine wa_iconst 2 ic_2 E d_X4_rub_38 ?_
    obtain ⟨g_7, h⟩ := kf_gn h
    refine wa_idiv g_7 E d_X4_rub_39 ?_
    refine wa_iadd E d_X4_rub_40 ?_
    obtain ⟨g_8, h⟩ := kf_gd h
    obtain ⟨σ_9, eσ_9, h⟩ := kf_lte h
    refine wa_iast (kf_wtf hty 0 49 k_v1 (by decide) rfl) g_8 E d_X4_rub_41 eσ_9 ?_
    obtain ⟨v3_10, ev3_10, h⟩ := kf_lte h
    refine wa_iinc (lv' := [(3, .int v3_10), (4, .int v4_5), (0, .ref (kf_ad G v0)), (1, .ref (kf_ad G v1)), (2, .int v2)]) v3_10 4 rfl (kf_inc ic_1 ev3_10) (by decide) rfl E d_X4_rub_42 ?_
    refine wa_goto E d_X4_rub_45 ?_
    refine wa_sub [2, 3, 4, 0] rfl ?_
    exact hrec2 v0 v1 v2 v3_10 k_v0 k_v1 σ_9 h
theorem b_X4_rub_2 {X : kf_X} {G : kf_G} {q : kf_St} (E : kf_ok X G cX4_rub RX4 5 none (1)) (hty : kf_wt G) : ∀ (N : Nat) (v0 : Nat) (v1 : Nat) (v2 : Int32) (v3 : Int32) (k_v0 : kf_kd G v0 = 5) (k_v1 : kf_kd G v1 = 2) (σ : kf_St) (_ : f_X4_rub_2 N v0 v1 v2 v3 σ = some q), kf_WA X G 5 (kf_Q X G none q) 2 [(0, .ref (kf_ad G v0)), (1, .ref (kf_ad G v1)), (2, .int v2), (3, .int v3)] [] σ
  | 0, _, _, _, _, _, _, _, h => by cases h
  | N + 1, v0, v1, v2, v3, k_v0, k_v1, σ, h => b_X4_rub_2_s _ E hty (b_X4_rub_2 E hty N) v0 v1 v2 v3 k_v0 k_v1 σ h
def f_X4_rub (v0 : Nat) (v1 : Nat) (v2 : Int32) (σ : kf_St) : Option kf_St :=
  f_X4_rub_2 kf_F v0 v1 v2 0 σ
set_option maxRecDepth 100000 in
set_option maxHeartbeats 4000000 in
theorem c_X4_rub {G : kf_G} (hty : kf_wt G) (v0 : Nat) (v1 : Nat) (v2 : Int32) (k_v0 : kf_kd G v0 = 5) (k_v1 : kf_kd G v1 = 2) (σ : kf_St) {q : kf_St} (h : f_X4_rub v0 v1 v2 σ = some q) : kf_Ct (1) yX4_rub cX4_rub 5 none G [.ref (kf_ad G v0), .ref (kf_ad G v1), .int v2] σ none q := by
  refine kf_Ct.of hty.1 (lv := [(0, .ref (kf_ad G v0)), (1, .ref (kf_ad G v1)), (2, .int v2)]) (by decide +kernel) rfl (Nat.le_of_ble_eq_true rfl) (fun X E => ?_)
  unfold f_X4_rub at h
  refine wa_iconst 0 ic_0 E d_X4_rub_0 ?_
  refine wa_istore_n (lv' := [(3, .int 0), (0, .ref (kf_ad G v0)), (1, .ref (kf_ad G v1)), (2, .int v2)]) rfl (by decide) rfl E d_X4_rub_1 ?_
  refine wa_sub [1, 2, 3, 0] rfl ?_
  exact b_X4_rub_2 E hty kf_F v0 v1 v2 0 k_v0 k_v1 σ h
/-! X0_rubsToChange -/
theorem d_X0_rubsToChange_0 : kf_dq cX0_rubsToChange 0 1 1 (.aload_n 0) := ⟨by decide +kernel, rfl⟩
theorem d_X0_rubsToChange_1 : kf_dq cX0_rubsToChange 1 4 3 (.getfield 26) := ⟨by decide +kernel, rfl⟩
theorem d_X0_rubsToChange_4 : kf_dq cX0_rubsToChange 4 5 1 (.aload_n 0) := ⟨by decide +kernel, rfl⟩
theorem d_X0_rubsToChange_5 : kf_dq cX0_rubsToChange 5 8 3 (.getfield 15) := ⟨by decide +kernel, rfl⟩
theorem d_X0_rubsToChange_8 : kf_dq cX0_rubsToChange 8 11 3 (.getfield 34) := ⟨by decide +kernel, rfl⟩
theorem d_X0_rubsToChange_11 : kf_dq cX0_rubsToChange 11 12 1 (.iload_n 1) := ⟨by decide +kernel, rfl⟩
theorem d_X0_rubsToChange_12 : kf_dq cX0_rubsToChange 12 13 1 (.aaload) := ⟨by decide +kernel, rfl⟩
theorem d_X0_rubsToChange_13 : kf_dq cX0_rubsToChange 13 16 3 (.invokevirtual 40) := ⟨by decide +kernel, rfl⟩
theorem d_X0_rubsToChange_16 : kf_dq cX0_rubsToChange 16 17 1 (.aload_n 0) := ⟨by decide +kernel, rfl⟩
theorem d_X0_rubsToChange_17 : kf_dq cX0_rubsToChange 17 20 3 (.getfield 9) := ⟨by decide +kernel, rfl⟩
theorem d_X0_rubsToChange_20 : kf_dq cX0_rubsToChange 20 21 1 (.aload_n 0) := ⟨by decide +kernel, rfl⟩
theorem d_X0_rubsToChange_21 : kf_dq cX0_rubsToChange 21 24 3 (.getfield 26) := ⟨by decide +kernel, rfl⟩
theorem d_X0_rubsToChange_24 : kf_dq cX0_rubsToChange 24 27 3 (.getfield 54) := ⟨by decide +kernel, rfl⟩
theorem d_X0_rubsToChange_27 : kf_dq cX0_rubsToChange 27 30 3 (.invokevirtual 57) := ⟨by decide +kernel, rfl⟩
theorem d_X0_rubsToChange_30 : kf_dq cX0_rubsToChange 30 31 1 (.istore_n 2) := ⟨by decide +kernel, rfl⟩
theorem d_X0_rubsToChange_31 : kf_dq cX0_rubsToChange 31 32 1 (.iconst 1) := ⟨by decide +kernel, rfl⟩
theorem d_X0_rubsToChange_32 : kf_dq cX0_rubsToChange 32 33 1 (.istore_n 3) := ⟨by decide +kernel, rfl⟩
theorem d_X0_rubsToChange_33 : kf_dq cX0_rubsToChange 33 34 1 (.iload_n 3) := ⟨by decide +kernel, rfl⟩
theorem d_X0_rubsToChange_34 : kf_dq cX0_rubsToChange 34 36 2 (.bipush 10) := ⟨by decide +kernel, rfl⟩
theorem d_X0_rubsToChange_36 : kf_dj cX0_rubsToChange 36 39 83 (.if_icmp .gt) := ⟨47, by decide +kernel, rfl, by decide⟩
theorem d_X0_rubsToChange_39 : kf_dq cX0_rubsToChange 39 40 1 (.iload_n 2) := ⟨by decide +kernel, rfl⟩
theorem d_X0_rubsToChange_40 : kf_dq cX0_rubsToChange 40 42 2 (.bipush (-2)) := ⟨by decide +kernel, rfl⟩
theorem d_X0_rubsToChange_42 : kf_dj cX0_rubsToChange 42 45 83 (.if_icmp .eq) := ⟨41, by decide +kernel, rfl, by decide⟩
theorem d_X0_rubsToChange_45 : kf_dq cX0_rubsToChange 45 46 1 (.aload_n 0) := ⟨by decide +kernel, rfl⟩
theorem d_X0_rubsToChange_46 : kf_dq cX0_rubsToChange 46 49 3 (.getfield 19) := ⟨by decide +kernel, rfl⟩
theorem d_X0_rubsToChange_49 : kf_dq cX0_rubsToChange 49 50 1 (.aload_n 0) := ⟨by decide +kernel, rfl⟩
theorem d_X0_rubsToChange_50 : kf_dq cX0_rubsToChange 50 53 3 (.getfield 26) := ⟨by decide +kernel, rfl⟩
theorem d_X0_rubsToChange_53 : kf_dq cX0_rubsToChange 53 54 1 (.iload_n 1) := ⟨by decide +kernel, rfl⟩
theorem d_X0_rubsToChange_54 : kf_dq cX0_rubsToChange 54 57 3 (.invokevirtual 66) := ⟨by decide +kernel, rfl⟩
theorem d_X0_rubsToChange_57 : kf_dq cX0_rubsToChange 57 58 1 (.aload_n 0) := ⟨by decide +kernel, rfl⟩
theorem d_X0_rubsToChange_58 : kf_dq cX0_rubsToChange 58 61 3 (.getfield 9) := ⟨by decide +kernel, rfl⟩
theorem d_X0_rubsToChange_61 : kf_dq cX0_rubsToChange 61 62 1 (.aload_n 0) := ⟨by decide +kernel, rfl⟩
theorem d_X0_rubsToChange_62 : kf_dq cX0_rubsToChange 62 65 3 (.getfield 26) := ⟨by decide +kernel, rfl⟩
theorem d_X0_rubsToChange_65 : kf_dq cX0_rubsToChange 65 68 3 (.getfield 54) := ⟨by decide +kernel, rfl⟩
theorem d_X0_rubsToChange_68 : kf_dq cX0_rubsToChange 68 71 3 (.invokevirtual 57) := ⟨by decide +kernel, rfl⟩
theorem d_X0_rubsToChange_71 : kf_dq cX0_rubsToChange 71 72 1 (.iload_n 2) := ⟨by decide +kernel, rfl⟩
theorem d_X0_rubsToChange_72 : kf_dj cX0_rubsToChange 72 75 77 (.if_icmp .eq) := ⟨5, by decide +kernel, rfl, by decide⟩
theorem d_X0_rubsToChange_75 : kf_dq cX0_rubsToChange 75 76 1 (.iload_n 3) := ⟨by decide +kernel, rfl⟩
theorem d_X0_rubsToChange_76 : kf_dq cX0_rubsToChange 76 77 1 (.ireturn) := ⟨by decide +kernel, rfl⟩
theorem d_X0_rubsToChange_77 : kf_dq cX0_rubsToChange 77 80 3 (.iinc 3 1) := ⟨by decide +kernel, rfl⟩
theorem d_X0_rubsToChange_80 : kf_dj cX0_rubsToChange 80 83 33 .goto := ⟨(-47), by decide +kernel, rfl, by decide⟩
theorem d_X0_rubsToChange_83 : kf_dq cX0_rubsToChange 83 85 2 (.bipush (-2)) := ⟨by decide +kernel, rfl⟩
theorem d_X0_rubsToChange_85 : kf_dq cX0_rubsToChange 85 86 1 (.ireturn) := ⟨by decide +kernel, rfl⟩
def f_X0_rubsToChange_33_s (rec33 : Nat → Int32 → Int32 → Int32 → kf_St → Option (Int32 × kf_St)) (v0 : Nat) (v1 : Int32) (v2 : Int32) (v3 : Int32) (σ : kf_St) : Option (Int32 × kf_St) :=
  if 10 < v3 then
    some ((-2), σ)
  else
    if v2 = (-2) then
      some ((-2), σ)
    else
      (f_X4_rub (kf_rf v0 2) (kf_rf v0 3) v1 σ).bind fun q_3 =>
      (f_X10_knownBy (kf_rf v0 0) (kf_rf (kf_rf v0 3) 0) q_3).bind fun q_4 =>
      if q_4.1 = v2 then
        kf_lt (v3 + 1) fun v3_6 =>
        rec33 v0 v1 v2 v3_6 q_4.2
      else
        some (v3, q_4.2)
def f_X0_rubsToChange_33 : Nat → Nat → Int32 → Int32 → Int32 → kf_St → Option (Int32 × kf_St)
  | 0, _, _, _, _, _ => none
  | n + 1, v0, v1, v2, v3, σ => f_X0_rubsToChange_33_s (f_X0_rubsToChange_33 n) v0 v1 v2 v3 σ
set_option maxRecDepth 100000 in
set_option maxHeartbeats 4000000 in
theorem b_X0_rubsToChange_33_s {X : kf_X} {G : kf_G} (rec33 : Nat → Int32 → Int32 → Int32 → kf_St → Option (Int32 × kf_St)) {q : (Int32 × kf_St)} (E : kf_ok X G cX0_rubsToChange RX0 4 (some .int) (4)) (hty : kf_wt G) (hrec33 : ∀ (v0 : Nat) (v1 : Int32) (v2 : Int32) (v3 : Int32) (k_v0 : kf_kd G v0 = 1) (σ : kf_St), rec33 v0 v1 v2 v3 σ = some q → kf_WA X G 4 (kf_Q X G (some (.int q.1)) q.2) 33 [(0, .ref (kf_ad G v0)), (1, .int v1), (2, .int v2), (3, .int v3)] [] σ) (v0 : Nat) (v1 : Int32) (v2 : Int32) (v3 : Int32) (k_v0 : kf_kd G v0 = 1) (σ : kf_St) (h : f_X0_rubsToChange_33_s rec33 v0 v1 v2 v3 σ = some q) : kf_WA X G 4 (kf_Q X G (some (.int q.1)) q.2) 33 [(0, .ref (kf_ad G v0)), (1, .int v1), (2, .int v2), (3, .int v3)] [] σ := by
  unfold f_X0_rubsToChange_33_s at h
  refine wa_iload_n 3 rfl E d_X0_rubsToChange_33 ?_
  refine wa_bipush 10 bp_10 E d_X0_rubsToChange_34 ?_
  refine wa_icmp_gt E d_X0_rubsToChange_36 (fun c_1 => ?_) (fun c_1 => ?_)
  · replace h := kf_ift c_1 h
    refine wa_bipush (-2) bp_m2 E d_X0_rubsToChange_83 ?_
    cases h
    exact wa_iret E d_X0_rubsToChange_85
  · replace h := kf_iff c_1 h
    refine wa_iload_n 2 rfl E d_X0_rubsToChange_39 ?_
    refine wa_bipush (-2) bp_m2 E d_X0_rubsToChange_40 ?_
    refine wa_icmp_eq E d_X0_rubsToChange_42 (fun c_2 => ?_) (fun c_2 => ?_)
    · replace h := kf_ift c_2 h
      refine wa_bipush (-2) bp_m2 E d_X0_rubsToChange_83 ?_
      cases h
      exact wa_iret E d_X0_rubsToChange_85
    · replace h := kf_iff c_2 h
      refine wa_aload_n 0 rfl E d_X0_rubsToChange_45 ?_
      refine wa_getR fl_X0_19 k_v0 rfl E d_X0_rubsToChange_46 ?_
      refine wa_aload_n 0 rfl E d_X0_rubsToChange_49 ?_
      refine wa_getR fl_X0_26 k_v0 rfl E d_X0_rubsToChange_50 ?_
      refine wa_iload_n 1 rfl E d_X0_rubsToChange_53 ?_
      obtain ⟨q_3, hq_3, h⟩ := kf_bd h
      refine wa_callV (st2 := []) (c_X4_rub hty (kf_rf v0 2) (kf_rf v0 3) v1 (kf_wtf hty 2 4 k_v0 (by decide) rfl) (kf_wtf hty 3 1 k_v0 (by decide) rfl) σ hq_3) mv_X4_rub ml_X0_66 (kf_wtf hty 2 4 k_v0 (by decide) rfl) rfl (Nat.le_of_ble_eq_true rfl) rfl (Nat.le_of_ble_eq_true rfl) E d_X0_rubsToChange_54 rfl ?_
      refine wa_aload_n 0 rfl E d_X0_rubsToChange_57 ?_
      refine wa_getR fl_X0_9 k_v0 rfl E d_X0_rubsToChange_58 ?_
      refine wa_aload_n 0 rfl E d_X0_rubsToChange_61 ?_
      refine wa_getR fl_X0_26 k_v0 rfl E d_X0_rubsToChange_62 ?_
      refine wa_getR fl_X0_54 (kf_wtf hty 3 1 k_v0 (by decide) rfl) rfl E d_X0_rubsToChange_65 ?_
      obtain ⟨q_4, hq_4, h⟩ := kf_bd h
      refine wa_callV (st2 := [.int q_4.1]) (c_X10_knownBy hty (kf_rf v0 0) (kf_rf (kf_rf v0 3) 0) (kf_wtf hty 0 10 k_v0 (by decide) rfl) (kf_wtf hty 0 49 (kf_wtf hty 3 1 k_v0 (by decide) rfl) (by decide) rfl) q_3 hq_4) mv_X10_knownBy ml_X0_57 (kf_wtf hty 0 10 k_v0 (by decide) rfl) rfl (Nat.le_of_ble_eq_true rfl) rfl (Nat.le_of_ble_eq_true rfl) E d_X0_rubsToChange_68 rfl ?_
      refine wa_iload_n 2 rfl E d_X0_rubsToChange_71 ?_
      refine wa_icmp_eq E d_X0_rubsToChange_72 (fun c_5 => ?_) (fun c_5 => ?_)
      · replace h := kf_ift c_5 h
        obtain ⟨v3_6, ev3_6, h⟩ := kf_lte h
        refine wa_iinc (lv' := [(3, .int v3_6), (0, .ref (kf_ad G v0)), (1, .int v1), (2, .int v2)]) v3_6 3 rfl (kf_inc ic_1 ev3_6) (by decide) rfl E d_X0_rubsToChange_77 ?_
        refine wa_goto E d_X0_rubsToChange_80 ?_
        refine wa_sub [1, 2, 3, 0] rfl ?_
        exact hrec33 v0 v1 v2 v3_6 k_v0 q_4.2 h
      · replace h := kf_iff c_5 h
        refine wa_iload_n 3 rfl E d_X0_rubsToChange_75 ?_
        cases h
        exact wa_iret E d_X0_rubsToChange_76
theorem b_X0_rubsToChange_33 {X : kf_X} {G : kf_G} {q : (Int32 × kf_St)} (E : kf_ok X G cX0_rubsToChange RX0 4 (some .int) (4)) (hty : kf_wt G) : ∀ (N : Nat) (v0 : Nat) (v1 : Int32) (v2 : Int32) (v3 : Int32) (k_v0 : kf_kd G v0 = 1) (σ : kf_St) (_ : f_X0_rubsToChange_33 N v0 v1 v2 v3 σ = some q), kf_WA X G 4 (kf_Q X G (some (.int q.1)) q.2) 33 [(0, .ref (kf_ad G v0)), (1, .int v1), (2, .int v2), (3, .int v3)] [] σ
  | 0, _, _, _, _, _, _, h => by cases h
  | N + 1, v0, v1, v2, v3, k_v0, σ, h => b_X0_rubsToChange_33_s _ E hty (b_X0_rubsToChange_33 E hty N) v0 v1 v2 v3 k_v0 σ h
def f_X0_rubsToChange (v0 : Nat) (v1 : Int32) (σ : kf_St) : Option (Int32 × kf_St) :=
  if kf_ix v1 (kf_ln (kf_rf (kf_rf v0 1) 0)) = true then
  (f_X1_become (kf_rf v0 3) (kf_rf (kf_rf (kf_rf v0 1) 0) (Int32.toNatClampNeg v1)) σ).bind fun q_2 =>
  (f_X10_knownBy (kf_rf v0 0) (kf_rf (kf_rf v0 3) 0) q_2).bind fun q_3 =>
  f_X0_rubsToChange_33 kf_F v0 v1 q_3.1 1 q_3.2
  else none
set_option maxRecDepth 100000 in
set_option maxHeartbeats 4000000 in
theorem c_X0_rubsToChange {G : kf_G} (hty : kf_wt G) (v0 : Nat) (v1 : Int32) (k_v0 : kf_kd G v0 = 1) (σ : kf_St) {q : (Int32 × kf_St)} (h : f_X0_rubsToChange v0 v1 σ = some q) : kf_Ct (4) yX0_rubsToChange cX0_rubsToChange 4 (some .int) G [.ref (kf_ad G v0), .int v1] σ (some (.int q.1)) q.2 := by
  refine kf_Ct.of hty.1 (lv := [(0, .ref (kf_ad G v0)), (1, .int v1)]) (by decide +kernel) rfl (Nat.le_of_ble_eq_true rfl) (fun X E => ?_)
  unfold f_X0_rubsToChange at h
  refine wa_aload_n 0 rfl E d_X0_rubsToChange_0 ?_
  refine wa_getR fl_X0_26 k_v0 rfl E d_X0_rubsToChange_1 ?_
  refine wa_aload_n 0 rfl E d_X0_rubsToChange_4 ?_
  refine wa_getR fl_X0_15 k_v0 rfl E d_X0_rubsToChange_5 ?_
  refine wa_getR fl_X0_34 (kf_wtf hty 1 7 k_v0 (by decide) rfl) rfl E d_X0_rubsToChange_8 ?_
  refine wa_iload_n 1 rfl E d_X0_rubsToChange_11 ?_
  obtain ⟨g_1, h⟩ := kf_gd h
  refine wa_aald (kf_wtf hty 0 53 (kf_wtf hty 1 7 k_v0 (by decide) rfl) (by decide) rfl) g_1 E d_X0_rubsToChange_12 ?_
  obtain ⟨q_2, hq_2, h⟩ := kf_bd h
  refine wa_callV (st2 := []) (c_X1_become hty (kf_rf v0 3) (kf_rf (kf_rf (kf_rf v0 1) 0) (Int32.toNatClampNeg v1)) (kf_wtf hty 3 1 k_v0 (by decide) rfl) (kf_wta hty (kf_wtf hty 0 53 (kf_wtf hty 1 7 k_v0 (by decide) rfl) (by decide) rfl) g_1) σ hq_2) mv_X1_become ml_X0_40 (kf_wtf hty 3 1 k_v0 (by decide) rfl) rfl (Nat.le_of_ble_eq_true rfl) rfl (Nat.le_of_ble_eq_true rfl) E d_X0_rubsToChange_13 rfl ?_
  refine wa_aload_n 0 rfl E d_X0_rubsToChange_16 ?_
  refine wa_getR fl_X0_9 k_v0 rfl E d_X0_rubsToChange_17 ?_
  refine wa_aload_n 0 rfl E d_X0_rubsToChange_20 ?_
  refine wa_getR fl_X0_26 k_v0 rfl E d_X0_rubsToChange_21 ?_
  refine wa_getR fl_X0_54 (kf_wtf hty 3 1 k_v0 (by decide) rfl) rfl E d_X0_rubsToChange_24 ?_
  obtain ⟨q_3, hq_3, h⟩ := kf_bd h
  refine wa_callV (st2 := [.int q_3.1]) (c_X10_knownBy hty (kf_rf v0 0) (kf_rf (kf_rf v0 3) 0) (kf_wtf hty 0 10 k_v0 (by decide) rfl) (kf_wtf hty 0 49 (kf_wtf hty 3 1 k_v0 (by decide) rfl) (by decide) rfl) q_2 hq_3) mv_X10_knownBy ml_X0_57 (kf_wtf hty 0 10 k_v0 (by decide) rfl) rfl (Nat.le_of_ble_eq_true rfl) rfl (Nat.le_of_ble_eq_true rfl) E d_X0_rubsToChange_27 rfl ?_
  refine wa_istore_n (lv' := [(2, .int q_3.1), (0, .ref (kf_ad G v0)), (1, .int v1)]) rfl (by decide) rfl E d_X0_rubsToChange_30 ?_
  refine wa_iconst 1 ic_1 E d_X0_rubsToChange_31 ?_
  refine wa_istore_n (lv' := [(3, .int 1), (2, .int q_3.1), (0, .ref (kf_ad G v0)), (1, .int v1)]) rfl (by decide) rfl E d_X0_rubsToChange_32 ?_
  refine wa_sub [2, 3, 1, 0] rfl ?_
  exact b_X0_rubsToChange_33 E hty kf_F v0 v1 q_3.1 1 k_v0 q_3.2 h
/-! X0_liftsAlone -/
theorem d_X0_liftsAlone_0 : kf_dq cX0_liftsAlone 0 1 1 (.aload_n 0) := ⟨by decide +kernel, rfl⟩
theorem d_X0_liftsAlone_1 : kf_dq cX0_liftsAlone 1 4 3 (.getfield 26) := ⟨by decide +kernel, rfl⟩
theorem d_X0_liftsAlone_4 : kf_dq cX0_liftsAlone 4 5 1 (.aload_n 0) := ⟨by decide +kernel, rfl⟩
theorem d_X0_liftsAlone_5 : kf_dq cX0_liftsAlone 5 8 3 (.getfield 15) := ⟨by decide +kernel, rfl⟩
theorem d_X0_liftsAlone_8 : kf_dq cX0_liftsAlone 8 11 3 (.getfield 34) := ⟨by decide +kernel, rfl⟩
theorem d_X0_liftsAlone_11 : kf_dq cX0_liftsAlone 11 12 1 (.iload_n 1) := ⟨by decide +kernel, rfl⟩
theorem d_X0_liftsAlone_12 : kf_dq cX0_liftsAlone 12 13 1 (.aaload) := ⟨by decide +kernel, rfl⟩
theorem d_X0_liftsAlone_13 : kf_dq cX0_liftsAlone 13 16 3 (.invokevirtual 40) := ⟨by decide +kernel, rfl⟩
theorem d_X0_liftsAlone_16 : kf_dq cX0_liftsAlone 16 17 1 (.iconst 0) := ⟨by decide +kernel, rfl⟩
theorem d_X0_liftsAlone_17 : kf_dq cX0_liftsAlone 17 18 1 (.istore_n 3) := ⟨by decide +kernel, rfl⟩
theorem d_X0_liftsAlone_18 : kf_dq cX0_liftsAlone 18 19 1 (.iload_n 3) := ⟨by decide +kernel, rfl⟩
theorem d_X0_liftsAlone_19 : kf_dq cX0_liftsAlone 19 21 2 (.bipush 60) := ⟨by decide +kernel, rfl⟩
theorem d_X0_liftsAlone_21 : kf_dj cX0_liftsAlone 21 24 69 (.if_icmp .gt) := ⟨48, by decide +kernel, rfl, by decide⟩
theorem d_X0_liftsAlone_24 : kf_dq cX0_liftsAlone 24 25 1 (.aload_n 0) := ⟨by decide +kernel, rfl⟩
theorem d_X0_liftsAlone_25 : kf_dq cX0_liftsAlone 25 28 3 (.getfield 9) := ⟨by decide +kernel, rfl⟩
theorem d_X0_liftsAlone_28 : kf_dq cX0_liftsAlone 28 29 1 (.aload_n 0) := ⟨by decide +kernel, rfl⟩
theorem d_X0_liftsAlone_29 : kf_dq cX0_liftsAlone 29 32 3 (.getfield 26) := ⟨by decide +kernel, rfl⟩
theorem d_X0_liftsAlone_32 : kf_dq cX0_liftsAlone 32 35 3 (.getfield 54) := ⟨by decide +kernel, rfl⟩
theorem d_X0_liftsAlone_35 : kf_dq cX0_liftsAlone 35 38 3 (.invokevirtual 57) := ⟨by decide +kernel, rfl⟩
theorem d_X0_liftsAlone_38 : kf_dq cX0_liftsAlone 38 39 1 (.iload_n 2) := ⟨by decide +kernel, rfl⟩
theorem d_X0_liftsAlone_39 : kf_dj cX0_liftsAlone 39 42 44 (.if_icmp .ne) := ⟨5, by decide +kernel, rfl, by decide⟩
theorem d_X0_liftsAlone_42 : kf_dq cX0_liftsAlone 42 43 1 (.iload_n 3) := ⟨by decide +kernel, rfl⟩
theorem d_X0_liftsAlone_43 : kf_dq cX0_liftsAlone 43 44 1 (.ireturn) := ⟨by decide +kernel, rfl⟩
theorem d_X0_liftsAlone_44 : kf_dq cX0_liftsAlone 44 45 1 (.aload_n 0) := ⟨by decide +kernel, rfl⟩
theorem d_X0_liftsAlone_45 : kf_dq cX0_liftsAlone 45 48 3 (.getfield 19) := ⟨by decide +kernel, rfl⟩
theorem d_X0_liftsAlone_48 : kf_dq cX0_liftsAlone 48 49 1 (.aload_n 0) := ⟨by decide +kernel, rfl⟩
theorem d_X0_liftsAlone_49 : kf_dq cX0_liftsAlone 49 52 3 (.getfield 26) := ⟨by decide +kernel, rfl⟩
theorem d_X0_liftsAlone_52 : kf_dq cX0_liftsAlone 52 53 1 (.iload_n 2) := ⟨by decide +kernel, rfl⟩
theorem d_X0_liftsAlone_53 : kf_dq cX0_liftsAlone 53 54 1 (.aload_n 0) := ⟨by decide +kernel, rfl⟩
theorem d_X0_liftsAlone_54 : kf_dq cX0_liftsAlone 54 57 3 (.getfield 15) := ⟨by decide +kernel, rfl⟩
theorem d_X0_liftsAlone_57 : kf_dq cX0_liftsAlone 57 60 3 (.getfield 44) := ⟨by decide +kernel, rfl⟩
theorem d_X0_liftsAlone_60 : kf_dq cX0_liftsAlone 60 63 3 (.invokevirtual 70) := ⟨by decide +kernel, rfl⟩
theorem d_X0_liftsAlone_63 : kf_dq cX0_liftsAlone 63 66 3 (.iinc 3 1) := ⟨by decide +kernel, rfl⟩
theorem d_X0_liftsAlone_66 : kf_dj cX0_liftsAlone 66 69 18 .goto := ⟨(-48), by decide +kernel, rfl, by decide⟩
theorem d_X0_liftsAlone_69 : kf_dq cX0_liftsAlone 69 71 2 (.bipush (-2)) := ⟨by decide +kernel, rfl⟩
theorem d_X0_liftsAlone_71 : kf_dq cX0_liftsAlone 71 72 1 (.ireturn) := ⟨by decide +kernel, rfl⟩
def f_X0_liftsAlone_18_s (rec18 : Nat → Int32 → Int32 → kf_St → Option (Int32 × kf_St)) (v0 : Nat) (v2 : Int32) (v3 : Int32) (σ : kf_St) : Option (Int32 × kf_St) :=
  if 60 < v3 then
    some ((-2), σ)
  else
    (f_X10_knownBy (kf_rf v0 0) (kf_rf (kf_rf v0 3) 0) σ).bind fun q_2 =>
    if q_2.1 = v2 then
      some (v3, q_2.2)
    else
      (f_X4_liftBy (kf_rf v0 2) (kf_rf v0 3) v2 (q_2.2.1 (kf_rf v0 1) 3) q_2.2).bind fun q_4 =>
      kf_lt (v3 + 1) fun v3_5 =>
      rec18 v0 v2 v3_5 q_4
def f_X0_liftsAlone_18 : Nat → Nat → Int32 → Int32 → kf_St → Option (Int32 × kf_St)
  | 0, _, _, _, _ => none
  | n + 1, v0, v2, v3, σ => f_X0_liftsAlone_18_s (f_X0_liftsAlone_18 n) v0 v2 v3 σ
set_option maxRecDepth 100000 in
set_option maxHeartbeats 4000000 in
theorem b_X0_liftsAlone_18_s {X : kf_X} {G : kf_G} (rec18 : Nat → Int32 → Int32 → kf_St → Option (Int32 × kf_St)) {q : (Int32 × kf_St)} (E : kf_ok X G cX0_liftsAlone RX0 4 (some .int) (6)) (hty : kf_wt G) (hrec18 : ∀ (v0 : Nat) (v2 : Int32) (v3 : Int32) (k_v0 : kf_kd G v0 = 1) (σ : kf_St), rec18 v0 v2 v3 σ = some q → kf_WA X G 4 (kf_Q X G (some (.int q.1)) q.2) 18 [(0, .ref (kf_ad G v0)), (2, .int v2), (3, .int v3)] [] σ) (v0 : Nat) (v2 : Int32) (v3 : Int32) (k_v0 : kf_kd G v0 = 1) (σ : kf_St) (h : f_X0_liftsAlone_18_s rec18 v0 v2 v3 σ = some q) : kf_WA X G 4 (kf_Q X G (some (.int q.1)) q.2) 18 [(0, .ref (kf_ad G v0)), (2, .int v2), (3, .int v3)] [] σ := by
  unfold f_X0_liftsAlone_18_s at h
  refine wa_iload_n 2 rfl E d_X0_liftsAlone_18 ?_
  refine wa_bipush 60 bp_60 E d_X0_liftsAlone_19 ?_
  refine wa_icmp_gt E d_X0_liftsAlone_21 (fun c_1 => ?_) (fun c_1 => ?_)
  · replace h := kf_ift c_1 h
    refine wa_bipush (-2) bp_m2 E d_X0_liftsAlone_69 ?_
    cases h
    exact wa_iret E d_X0_liftsAlone_71
  · replace h := kf_iff c_1 h
    refine wa_aload_n 0 rfl E d_X0_liftsAlone_24 ?_
    refine wa_getR fl_X0_9 k_v0 rfl E d_X0_liftsAlone_25 ?_
    refine wa_aload_n 0 rfl E d_X0_liftsAlone_28 ?_
    refine wa_getR fl_X0_26 k_v0 rfl E d_X0_liftsAlone_29 ?_
    refine wa_getR fl_X0_54 (kf_wtf hty 3 1 k_v0 (by decide) rfl) rfl E d_X0_liftsAlone_32 ?_
    obtain ⟨q_2, hq_2, h⟩ := kf_bd h
    refine wa_callV (st2 := [.int q_2.1]) (c_X10_knownBy hty (kf_rf v0 0) (kf_rf (kf_rf v0 3) 0) (kf_wtf hty 0 10 k_v0 (by decide) rfl) (kf_wtf hty 0 49 (kf_wtf hty 3 1 k_v0 (by decide) rfl) (by decide) rfl) σ hq_2) mv_X10_knownBy ml_X0_57 (kf_wtf hty 0 10 k_v0 (by decide) rfl) rfl (Nat.le_of_ble_eq_true rfl) rfl (Nat.le_of_ble_eq_true rfl) E d_X0_liftsAlone_35 rfl ?_
    refine wa_iload_n 1 rfl E d_X0_liftsAlone_38 ?_
    refine wa_icmp_ne E d_X0_liftsAlone_39 (fun c_3 => ?_) (fun c_3 => ?_)
    · replace h := kf_iff c_3 h
      refine wa_aload_n 0 rfl E d_X0_liftsAlone_44 ?_
      refine wa_getR fl_X0_19 k_v0 rfl E d_X0_liftsAlone_45 ?_
      refine wa_aload_n 0 rfl E d_X0_liftsAlone_48 ?_
      refine wa_getR fl_X0_26 k_v0 rfl E d_X0_liftsAlone_49 ?_
      refine wa_iload_n 1 rfl E d_X0_liftsAlone_52 ?_
      refine wa_aload_n 0 rfl E d_X0_liftsAlone_53 ?_
      refine wa_getR fl_X0_15 k_v0 rfl E d_X0_liftsAlone_54 ?_
      refine wa_getI fl_X0_44 (kf_wtf hty 1 7 k_v0 (by decide) rfl) rfl E d_X0_liftsAlone_57 ?_
      obtain ⟨q_4, hq_4, h⟩ := kf_bd h
      refine wa_callV (st2 := []) (c_X4_liftBy hty (kf_rf v0 2) (kf_rf v0 3) v2 (q_2.2.1 (kf_rf v0 1) 3) (kf_wtf hty 2 4 k_v0 (by decide) rfl) (kf_wtf hty 3 1 k_v0 (by decide) rfl) q_2.2 hq_4) mv_X4_liftBy ml_X0_70 (kf_wtf hty 2 4 k_v0 (by decide) rfl) rfl (Nat.le_of_ble_eq_true rfl) rfl (Nat.le_of_ble_eq_true rfl) E d_X0_liftsAlone_60 rfl ?_
      obtain ⟨v3_5, ev3_5, h⟩ := kf_lte h
      refine wa_iinc (lv' := [(3, .int v3_5), (0, .ref (kf_ad G v0)), (2, .int v2)]) v3_5 2 rfl (kf_inc ic_1 ev3_5) (by decide) rfl E d_X0_liftsAlone_63 ?_
      refine wa_goto E d_X0_liftsAlone_66 ?_
      refine wa_sub [1, 2, 0] rfl ?_
      exact hrec18 v0 v2 v3_5 k_v0 q_4 h
    · replace h := kf_ift c_3 h
      refine wa_iload_n 2 rfl E d_X0_liftsAlone_42 ?_
      cases h
      exact wa_iret E d_X0_liftsAlone_43
theorem b_X0_liftsAlone_18 {X : kf_X} {G : kf_G} {q : (Int32 × kf_St)} (E : kf_ok X G cX0_liftsAlone RX0 4 (some .int) (6)) (hty : kf_wt G) : ∀ (N : Nat) (v0 : Nat) (v2 : Int32) (v3 : Int32) (k_v0 : kf_kd G v0 = 1) (σ : kf_St) (_ : f_X0_liftsAlone_18 N v0 v2 v3 σ = some q), kf_WA X G 4 (kf_Q X G (some (.int q.1)) q.2) 18 [(0, .ref (kf_ad G v0)), (2, .int v2), (3, .int v3)] [] σ
  | 0, _, _, _, _, _, h => by cases h
  | N + 1, v0, v2, v3, k_v0, σ, h => b_X0_liftsAlone_18_s _ E hty (b_X0_liftsAlone_18 E hty N) v0 v2 v3 k_v0 σ h
def f_X0_liftsAlone (v0 : Nat) (v1 : Int32) (v2 : Int32) (σ : kf_St) : Option (Int32 × kf_St) :=
  if kf_ix v1 (kf_ln (kf_rf (kf_rf v0 1) 0)) = true then
  (f_X1_become (kf_rf v0 3) (kf_rf (kf_rf (kf_rf v0 1) 0) (Int32.toNatClampNeg v1)) σ).bind fun q_2 =>
  f_X0_liftsAlone_18 kf_F v0 v2 0 q_2
  else none
set_option maxRecDepth 100000 in
set_option maxHeartbeats 4000000 in
theorem c_X0_liftsAlone {G : kf_G} (hty : kf_wt G) (v0 : Nat) (v1 : Int32) (v2 : Int32) (k_v0 : kf_kd G v0 = 1) (σ : kf_St) {q : (Int32 × kf_St)} (h : f_X0_liftsAlone v0 v1 v2 σ = some q) : kf_Ct (6) yX0_liftsAlone cX0_liftsAlone 4 (some .int) G [.ref (kf_ad G v0), .int v1, .int v2] σ (some (.int q.1)) q.2 := by
  refine kf_Ct.of hty.1 (lv := [(0, .ref (kf_ad G v0)), (1, .int v1), (2, .int v2)]) (by decide +kernel) rfl (Nat.le_of_ble_eq_true rfl) (fun X E => ?_)
  unfold f_X0_liftsAlone at h
  refine wa_aload_n 0 rfl E d_X0_liftsAlone_0 ?_
  refine wa_getR fl_X0_26 k_v0 rfl E d_X0_liftsAlone_1 ?_
  refine wa_aload_n 0 rfl E d_X0_liftsAlone_4 ?_
  refine wa_getR fl_X0_15 k_v0 rfl E d_X0_liftsAlone_5 ?_
  refine wa_getR fl_X0_34 (kf_wtf hty 1 7 k_v0 (by decide) rfl) rfl E d_X0_liftsAlone_8 ?_
  refine wa_iload_n 1 rfl E d_X0_liftsAlone_11 ?_
  obtain ⟨g_1, h⟩ := kf_gd h
  refine wa_aald (kf_wtf hty 0 53 (kf_wtf hty 1 7 k_v0 (by decide) rfl) (by decide) rfl) g_1 E d_X0_liftsAlone_12 ?_
  obtain ⟨q_2, hq_2, h⟩ := kf_bd h
  refine wa_callV (st2 := []) (c_X1_become hty (kf_rf v0 3) (kf_rf (kf_rf (kf_rf v0 1) 0) (Int32.toNatClampNeg v1)) (kf_wtf hty 3 1 k_v0 (by decide) rfl) (kf_wta hty (kf_wtf hty 0 53 (kf_wtf hty 1 7 k_v0 (by decide) rfl) (by decide) rfl) g_1) σ hq_2) mv_X1_become ml_X0_40 (kf_wtf hty 3 1 k_v0 (by decide) rfl) rfl (Nat.le_of_ble_eq_true rfl) rfl (Nat.le_of_ble_eq_true rfl) E d_X0_liftsAlone_13 rfl ?_
  refine wa_iconst 0 ic_0 E d_X0_liftsAlone_16 ?_
  refine wa_istore_n (lv' := [(3, .int 0), (0, .ref (kf_ad G v0)), (1, .int v1), (2, .int v2)]) rfl (by decide) rfl E d_X0_liftsAlone_17 ?_
  refine wa_sub [1, 3, 0] rfl ?_
  exact b_X0_liftsAlone_18 E hty kf_F v0 v2 0 k_v0 q_2 h
/-! X0_unlikeBehindLift -/
theorem d_X0_unlikeBehindLift_0 : kf_dq cX0_unlikeBehindLift 0 1 1 (.aload_n 0) := ⟨by decide +kernel, rfl⟩
theorem d_X0_unlikeBehindLift_1 : kf_dq cX0_unlikeBehindLift 1 4 3 (.getfield 26) := ⟨by decide +kernel, rfl⟩
theorem d_X0_unlikeBehindLift_4 : kf_dq cX0_unlikeBehindLift 4 5 1 (.aload_n 0) := ⟨by decide +kernel, rfl⟩
theorem d_X0_unlikeBehindLift_5 : kf_dq cX0_unlikeBehindLift 5 8 3 (.getfield 15) := ⟨by decide +kernel, rfl⟩
theorem d_X0_unlikeBehindLift_8 : kf_dq cX0_unlikeBehindLift 8 11 3 (.getfield 34) := ⟨by decide +kernel, rfl⟩
theorem d_X0_unlikeBehindLift_11 : kf_dq cX0_unlikeBehindLift 11 12 1 (.iload_n 1) := ⟨by decide +kernel, rfl⟩
theorem d_X0_unlikeBehindLift_12 : kf_dq cX0_unlikeBehindLift 12 13 1 (.aaload) := ⟨by decide +kernel, rfl⟩
theorem d_X0_unlikeBehindLift_13 : kf_dq cX0_unlikeBehindLift 13 16 3 (.invokevirtual 40) := ⟨by decide +kernel, rfl⟩
theorem d_X0_unlikeBehindLift_16 : kf_dq cX0_unlikeBehindLift 16 17 1 (.aload_n 0) := ⟨by decide +kernel, rfl⟩
theorem d_X0_unlikeBehindLift_17 : kf_dq cX0_unlikeBehindLift 17 20 3 (.getfield 19) := ⟨by decide +kernel, rfl⟩
theorem d_X0_unlikeBehindLift_20 : kf_dq cX0_unlikeBehindLift 20 21 1 (.aload_n 0) := ⟨by decide +kernel, rfl⟩
theorem d_X0_unlikeBehindLift_21 : kf_dq cX0_unlikeBehindLift 21 24 3 (.getfield 26) := ⟨by decide +kernel, rfl⟩
theorem d_X0_unlikeBehindLift_24 : kf_dq cX0_unlikeBehindLift 24 25 1 (.iload_n 2) := ⟨by decide +kernel, rfl⟩
theorem d_X0_unlikeBehindLift_25 : kf_dq cX0_unlikeBehindLift 25 26 1 (.aload_n 0) := ⟨by decide +kernel, rfl⟩
theorem d_X0_unlikeBehindLift_26 : kf_dq cX0_unlikeBehindLift 26 29 3 (.getfield 15) := ⟨by decide +kernel, rfl⟩
theorem d_X0_unlikeBehindLift_29 : kf_dq cX0_unlikeBehindLift 29 32 3 (.getfield 44) := ⟨by decide +kernel, rfl⟩
theorem d_X0_unlikeBehindLift_32 : kf_dq cX0_unlikeBehindLift 32 35 3 (.invokevirtual 70) := ⟨by decide +kernel, rfl⟩
theorem d_X0_unlikeBehindLift_35 : kf_dq cX0_unlikeBehindLift 35 36 1 (.aload_n 0) := ⟨by decide +kernel, rfl⟩
theorem d_X0_unlikeBehindLift_36 : kf_dq cX0_unlikeBehindLift 36 39 3 (.getfield 9) := ⟨by decide +kernel, rfl⟩
theorem d_X0_unlikeBehindLift_39 : kf_dq cX0_unlikeBehindLift 39 40 1 (.aload_n 0) := ⟨by decide +kernel, rfl⟩
theorem d_X0_unlikeBehindLift_40 : kf_dq cX0_unlikeBehindLift 40 43 3 (.getfield 26) := ⟨by decide +kernel, rfl⟩
theorem d_X0_unlikeBehindLift_43 : kf_dq cX0_unlikeBehindLift 43 46 3 (.getfield 54) := ⟨by decide +kernel, rfl⟩
theorem d_X0_unlikeBehindLift_46 : kf_dq cX0_unlikeBehindLift 46 47 1 (.iload_n 3) := ⟨by decide +kernel, rfl⟩
theorem d_X0_unlikeBehindLift_47 : kf_dq cX0_unlikeBehindLift 47 50 3 (.invokevirtual 74) := ⟨by decide +kernel, rfl⟩
theorem d_X0_unlikeBehindLift_50 : kf_dq cX0_unlikeBehindLift 50 51 1 (.ireturn) := ⟨by decide +kernel, rfl⟩
def f_X0_unlikeBehindLift (v0 : Nat) (v1 : Int32) (v2 : Int32) (v3 : Int32) (σ : kf_St) : Option (Int32 × kf_St) :=
  if kf_ix v1 (kf_ln (kf_rf (kf_rf v0 1) 0)) = true then
  (f_X1_become (kf_rf v0 3) (kf_rf (kf_rf (kf_rf v0 1) 0) (Int32.toNatClampNeg v1)) σ).bind fun q_2 =>
  (f_X4_liftBy (kf_rf v0 2) (kf_rf v0 3) v2 (q_2.1 (kf_rf v0 1) 3) q_2).bind fun q_3 =>
  (f_X10_unlikeTo (kf_rf v0 0) (kf_rf (kf_rf v0 3) 0) v3 q_3).bind fun q_4 =>
  some (q_4.1, q_4.2)
  else none
set_option maxRecDepth 100000 in
set_option maxHeartbeats 4000000 in
theorem c_X0_unlikeBehindLift {G : kf_G} (hty : kf_wt G) (v0 : Nat) (v1 : Int32) (v2 : Int32) (v3 : Int32) (k_v0 : kf_kd G v0 = 1) (σ : kf_St) {q : (Int32 × kf_St)} (h : f_X0_unlikeBehindLift v0 v1 v2 v3 σ = some q) : kf_Ct (6) yX0_unlikeBehindLift cX0_unlikeBehindLift 4 (some .int) G [.ref (kf_ad G v0), .int v1, .int v2, .int v3] σ (some (.int q.1)) q.2 := by
  refine kf_Ct.of hty.1 (lv := [(0, .ref (kf_ad G v0)), (1, .int v1), (2, .int v2), (3, .int v3)]) (by decide +kernel) rfl (Nat.le_of_ble_eq_true rfl) (fun X E => ?_)
  unfold f_X0_unlikeBehindLift at h
  refine wa_aload_n 0 rfl E d_X0_unlikeBehindLift_0 ?_
  refine wa_getR fl_X0_26 k_v0 rfl E d_X0_unlikeBehindLift_1 ?_
  refine wa_aload_n 0 rfl E d_X0_unlikeBehindLift_4 ?_
  refine wa_getR fl_X0_15 k_v0 rfl E d_X0_unlikeBehindLift_5 ?_
  refine wa_getR fl_X0_34 (kf_wtf hty 1 7 k_v0 (by decide) rfl) rfl E d_X0_unlikeBehindLift_8 ?_
  refine wa_iload_n 1 rfl E d_X0_unlikeBehindLift_11 ?_
  obtain ⟨g_1, h⟩ := kf_gd h
  refine wa_aald (kf_wtf hty 0 53 (kf_wtf hty 1 7 k_v0 (by decide) rfl) (by decide) rfl) g_1 E d_X0_unlikeBehindLift_12 ?_
  obtain ⟨q_2, hq_2, h⟩ := kf_bd h
  refine wa_callV (st2 := []) (c_X1_become hty (kf_rf v0 3) (kf_rf (kf_rf (kf_rf v0 1) 0) (Int32.toNatClampNeg v1)) (kf_wtf hty 3 1 k_v0 (by decide) rfl) (kf_wta hty (kf_wtf hty 0 53 (kf_wtf hty 1 7 k_v0 (by decide) rfl) (by decide) rfl) g_1) σ hq_2) mv_X1_become ml_X0_40 (kf_wtf hty 3 1 k_v0 (by decide) rfl) rfl (Nat.le_of_ble_eq_true rfl) rfl (Nat.le_of_ble_eq_true rfl) E d_X0_unlikeBehindLift_13 rfl ?_
  refine wa_aload_n 0 rfl E d_X0_unlikeBehindLift_16 ?_
  refine wa_getR fl_X0_19 k_v0 rfl E d_X0_unlikeBehindLift_17 ?_
  refine wa_aload_n 0 rfl E d_X0_unlikeBehindLift_20 ?_
  refine wa_getR fl_X0_26 k_v0 rfl E d_X0_unlikeBehindLift_21 ?_
  refine wa_iload_n 2 rfl E d_X0_unlikeBehindLift_24 ?_
  refine wa_aload_n 0 rfl E d_X0_unlikeBehindLift_25 ?_
  refine wa_getR fl_X0_15 k_v0 rfl E d_X0_unlikeBehindLift_26 ?_
  refine wa_getI fl_X0_44 (kf_wtf hty 1 7 k_v0 (by decide) rfl) rfl E d_X0_unlikeBehindLift_29 ?_
  obtain ⟨q_3, hq_3, h⟩ := kf_bd h
  refine wa_callV (st2 := []) (c_X4_liftBy hty (kf_rf v0 2) (kf_rf v0 3) v2 (q_2.1 (kf_rf v0 1) 3) (kf_wtf hty 2 4 k_v0 (by decide) rfl) (kf_wtf hty 3 1 k_v0 (by decide) rfl) q_2 hq_3) mv_X4_liftBy ml_X0_70 (kf_wtf hty 2 4 k_v0 (by decide) rfl) rfl (Nat.le_of_ble_eq_true rfl) rfl (Nat.le_of_ble_eq_true rfl) E d_X0_unlikeBehindLift_32 rfl ?_
  refine wa_aload_n 0 rfl E d_X0_unlikeBehindLift_35 ?_
  refine wa_getR fl_X0_9 k_v0 rfl E d_X0_unlikeBehindLift_36 ?_
  refine wa_aload_n 0 rfl E d_X0_unlikeBehindLift_39 ?_
  refine wa_getR fl_X0_26 k_v0 rfl E d_X0_unlikeBehindLift_40 ?_
  refine wa_getR fl_X0_54 (kf_wtf hty 3 1 k_v0 (by decide) rfl) rfl E d_X0_unlikeBehindLift_43 ?_
  refine wa_iload_n 3 rfl E d_X0_unlikeBehindLift_46 ?_
  obtain ⟨q_4, hq_4, h⟩ := kf_bd h
  refine wa_callV (st2 := [.int q_4.1]) (c_X10_unlikeTo hty (kf_rf v0 0) (kf_rf (kf_rf v0 3) 0) v3 (kf_wtf hty 0 10 k_v0 (by decide) rfl) (kf_wtf hty 0 49 (kf_wtf hty 3 1 k_v0 (by decide) rfl) (by decide) rfl) q_3 hq_4) mv_X10_unlikeTo ml_X0_74 (kf_wtf hty 0 10 k_v0 (by decide) rfl) rfl (Nat.le_of_ble_eq_true rfl) rfl (Nat.le_of_ble_eq_true rfl) E d_X0_unlikeBehindLift_47 rfl ?_
  cases h
  exact wa_iret E d_X0_unlikeBehindLift_50
/-! X0_nodesAbove -/
theorem d_X0_nodesAbove_0 : kf_dq cX0_nodesAbove 0 1 1 (.iconst 0) := ⟨by decide +kernel, rfl⟩
theorem d_X0_nodesAbove_1 : kf_dq cX0_nodesAbove 1 2 1 (.istore_n 2) := ⟨by decide +kernel, rfl⟩
theorem d_X0_nodesAbove_2 : kf_dq cX0_nodesAbove 2 3 1 (.iconst 1) := ⟨by decide +kernel, rfl⟩
theorem d_X0_nodesAbove_3 : kf_dq cX0_nodesAbove 3 4 1 (.istore_n 3) := ⟨by decide +kernel, rfl⟩
theorem d_X0_nodesAbove_4 : kf_dq cX0_nodesAbove 4 5 1 (.iconst 0) := ⟨by decide +kernel, rfl⟩
theorem d_X0_nodesAbove_5 : kf_dq cX0_nodesAbove 5 7 2 (.istore 4) := ⟨by decide +kernel, rfl⟩
theorem d_X0_nodesAbove_7 : kf_dq cX0_nodesAbove 7 9 2 (.iload 4) := ⟨by decide +kernel, rfl⟩
theorem d_X0_nodesAbove_9 : kf_dq cX0_nodesAbove 9 10 1 (.iload_n 1) := ⟨by decide +kernel, rfl⟩
theorem d_X0_nodesAbove_10 : kf_dj cX0_nodesAbove 10 13 33 (.if_icmp .ge) := ⟨23, by decide +kernel, rfl, by decide⟩
theorem d_X0_nodesAbove_13 : kf_dq cX0_nodesAbove 13 14 1 (.iload_n 2) := ⟨by decide +kernel, rfl⟩
theorem d_X0_nodesAbove_14 : kf_dq cX0_nodesAbove 14 15 1 (.iload_n 3) := ⟨by decide +kernel, rfl⟩
theorem d_X0_nodesAbove_15 : kf_dq cX0_nodesAbove 15 16 1 (.iadd) := ⟨by decide +kernel, rfl⟩
theorem d_X0_nodesAbove_16 : kf_dq cX0_nodesAbove 16 17 1 (.istore_n 2) := ⟨by decide +kernel, rfl⟩
theorem d_X0_nodesAbove_17 : kf_dq cX0_nodesAbove 17 18 1 (.iload_n 3) := ⟨by decide +kernel, rfl⟩
theorem d_X0_nodesAbove_18 : kf_dq cX0_nodesAbove 18 19 1 (.aload_n 0) := ⟨by decide +kernel, rfl⟩
theorem d_X0_nodesAbove_19 : kf_dq cX0_nodesAbove 19 22 3 (.getfield 9) := ⟨by decide +kernel, rfl⟩
theorem d_X0_nodesAbove_22 : kf_dq cX0_nodesAbove 22 25 3 (.getfield 78) := ⟨by decide +kernel, rfl⟩
theorem d_X0_nodesAbove_25 : kf_dq cX0_nodesAbove 25 26 1 (.imul) := ⟨by decide +kernel, rfl⟩
theorem d_X0_nodesAbove_26 : kf_dq cX0_nodesAbove 26 27 1 (.istore_n 3) := ⟨by decide +kernel, rfl⟩
theorem d_X0_nodesAbove_27 : kf_dq cX0_nodesAbove 27 30 3 (.iinc 4 1) := ⟨by decide +kernel, rfl⟩
theorem d_X0_nodesAbove_30 : kf_dj cX0_nodesAbove 30 33 7 .goto := ⟨(-23), by decide +kernel, rfl, by decide⟩
theorem d_X0_nodesAbove_33 : kf_dq cX0_nodesAbove 33 34 1 (.iload_n 2) := ⟨by decide +kernel, rfl⟩
theorem d_X0_nodesAbove_34 : kf_dq cX0_nodesAbove 34 35 1 (.ireturn) := ⟨by decide +kernel, rfl⟩
def f_X0_nodesAbove_7_s (rec7 : Nat → Int32 → Int32 → Int32 → Int32 → kf_St → Option (Int32 × kf_St)) (v0 : Nat) (v1 : Int32) (v2 : Int32) (v3 : Int32) (v4 : Int32) (σ : kf_St) : Option (Int32 × kf_St) :=
  if v1 ≤ v4 then
    some (v2, σ)
  else
    kf_lt ((v2 + v3)) fun v2_2 =>
    kf_lt ((v3 * (σ.1 (kf_rf v0 0) 1))) fun v3_3 =>
    kf_lt (v4 + 1) fun v4_4 =>
    rec7 v0 v1 v2_2 v3_3 v4_4 σ
def f_X0_nodesAbove_7 : Nat → Nat → Int32 → Int32 → Int32 → Int32 → kf_St → Option (Int32 × kf_St)
  | 0, _, _, _, _, _, _ => none
  | n + 1, v0, v1, v2, v3, v4, σ => f_X0_nodesAbove_7_s (f_X0_nodesAbove_7 n) v0 v1 v2 v3 v4 σ
set_option maxRecDepth 100000 in
set_option maxHeartbeats 4000000 in
theorem b_X0_nodesAbove_7_s {X : kf_X} {G : kf_G} (rec7 : Nat → Int32 → Int32 → Int32 → Int32 → kf_St → Option (Int32 × kf_St)) {q : (Int32 × kf_St)} (E : kf_ok X G cX0_nodesAbove RX0 5 (some .int) (1)) (hty : kf_wt G) (hrec7 : ∀ (v0 : Nat) (v1 : Int32) (v2 : Int32) (v3 : Int32) (v4 : Int32) (k_v0 : kf_kd G v0 = 1) (σ : kf_St), rec7 v0 v1 v2 v3 v4 σ = some q → kf_WA X G 5 (kf_Q X G (some (.int q.1)) q.2) 7 [(0, .ref (kf_ad G v0)), (1, .int v1), (2, .int v2), (3, .int v3), (4, .int v4)] [] σ) (v0 : Nat) (v1 : Int32) (v2 : Int32) (v3 : Int32) (v4 : Int32) (k_v0 : kf_kd G v0 = 1) (σ : kf_St) (h : f_X0_nodesAbove_7_s rec7 v0 v1 v2 v3 v4 σ = some q) : kf_WA X G 5 (kf_Q X G (some (.int q.1)) q.2) 7 [(0, .ref (kf_ad G v0)), (1, .int v1), (2, .int v2), (3, .int v3), (4, .int v4)] [] σ := by
  unfold f_X0_nodesAbove_7_s at h
  refine wa_iload 4 rfl E d_X0_nodesAbove_7 ?_
  refine wa_iload_n 1 rfl E d_X0_nodesAbove_9 ?_
  refine wa_icmp_ge E d_X0_nodesAbove_10 (fun c_1 => ?_) (fun c_1 => ?_)
  · replace h := kf_ift c_1 h
    refine wa_iload_n 2 rfl E d_X0_nodesAbove_33 ?_
    cases h
    exact wa_iret E d_X0_nodesAbove_34
  · replace h := kf_iff c_1 h
    refine wa_iload_n 2 rfl E d_X0_nodesAbove_13 ?_
    refine wa_iload_n 3 rfl E d_X0_nodesAbove_14 ?_
    refine wa_iadd E d_X0_nodesAbove_15 ?_
    obtain ⟨v2_2, ev2_2, h⟩ := kf_lte h
    refine wa_topi ev2_2 ?_
    refine wa_istore_n (lv' := [(2, .int v2_2), (0, .ref (kf_ad G v0)), (1, .int v1), (3, .int v3), (4, .int v4)]) rfl (by decide) rfl E d_X0_nodesAbove_16 ?_
    refine wa_iload_n 3 rfl E d_X0_nodesAbove_17 ?_
    refine wa_aload_n 1 rfl E d_X0_nodesAbove_18 ?_
    refine wa_getR fl_X0_9 k_v0 rfl E d_X0_nodesAbove_19 ?_
    refine wa_getI fl_X0_78 (kf_wtf hty 0 10 k_v0 (by decide) rfl) rfl E d_X0_nodesAbove_22 ?_
    refine wa_imul E d_X0_nodesAbove_25 ?_
    obtain ⟨v3_3, ev3_3, h⟩ := kf_lte h
    refine wa_topi ev3_3 ?_
    refine wa_istore_n (lv' := [(3, .int v3_3), (2, .int v2_2), (0, .ref (kf_ad G v0)), (1, .int v1), (4, .int v4)]) rfl (by decide) rfl E d_X0_nodesAbove_26 ?_
    obtain ⟨v4_4, ev4_4, h⟩ := kf_lte h
    refine wa_iinc (lv' := [(4, .int v4_4), (3, .int v3_3), (2, .int v2_2), (0, .ref (kf_ad G v0)), (1, .int v1)]) v4_4 4 rfl (kf_inc ic_1 ev4_4) (by decide) rfl E d_X0_nodesAbove_27 ?_
    refine wa_goto E d_X0_nodesAbove_30 ?_
    refine wa_sub [3, 4, 2, 1, 0] rfl ?_
    exact hrec7 v0 v1 v2_2 v3_3 v4_4 k_v0 σ h
theorem b_X0_nodesAbove_7 {X : kf_X} {G : kf_G} {q : (Int32 × kf_St)} (E : kf_ok X G cX0_nodesAbove RX0 5 (some .int) (1)) (hty : kf_wt G) : ∀ (N : Nat) (v0 : Nat) (v1 : Int32) (v2 : Int32) (v3 : Int32) (v4 : Int32) (k_v0 : kf_kd G v0 = 1) (σ : kf_St) (_ : f_X0_nodesAbove_7 N v0 v1 v2 v3 v4 σ = some q), kf_WA X G 5 (kf_Q X G (some (.int q.1)) q.2) 7 [(0, .ref (kf_ad G v0)), (1, .int v1), (2, .int v2), (3, .int v3), (4, .int v4)] [] σ
  | 0, _, _, _, _, _, _, _, h => by cases h
  | N + 1, v0, v1, v2, v3, v4, k_v0, σ, h => b_X0_nodesAbove_7_s _ E hty (b_X0_nodesAbove_7 E hty N) v0 v1 v2 v3 v4 k_v0 σ h
def f_X0_nodesAbove (v0 : Nat) (v1 : Int32) (σ : kf_St) : Option (Int32 × kf_St) :=
  f_X0_nodesAbove_7 kf_F v0 v1 0 1 0 σ
set_option maxRecDepth 100000 in
set_option maxHeartbeats 4000000 in
theorem c_X0_nodesAbove {G : kf_G} (hty : kf_wt G) (v0 : Nat) (v1 : Int32) (k_v0 : kf_kd G v0 = 1) (σ : kf_St) {q : (Int32 × kf_St)} (h : f_X0_nodesAbove v0 v1 σ = some q) : kf_Ct (1) yX0_nodesAbove cX0_nodesAbove 5 (some .int) G [.ref (kf_ad G v0), .int v1] σ (some (.int q.1)) q.2 := by
  refine kf_Ct.of hty.1 (lv := [(0, .ref (kf_ad G v0)), (1, .int v1)]) (by decide +kernel) rfl (Nat.le_of_ble_eq_true rfl) (fun X E => ?_)
  unfold f_X0_nodesAbove at h
  refine wa_iconst 0 ic_0 E d_X0_nodesAbove_0 ?_
  refine wa_istore_n (lv' := [(2, .int 0), (0, .ref (kf_ad G v0)), (1, .int v1)]) rfl (by decide) rfl E d_X0_nodesAbove_1 ?_
  refine wa_iconst 1 ic_1 E d_X0_nodesAbove_2 ?_
  refine wa_istore_n (lv' := [(3, .int 1), (2, .int 0), (0, .ref (kf_ad G v0)), (1, .int v1)]) rfl (by decide) rfl E d_X0_nodesAbove_3 ?_
  refine wa_iconst 0 ic_0 E d_X0_nodesAbove_4 ?_
  refine wa_istore (lv' := [(4, .int 0), (3, .int 1), (2, .int 0), (0, .ref (kf_ad G v0)), (1, .int v1)]) (by decide) rfl E d_X0_nodesAbove_5 ?_
  refine wa_sub [3, 4, 2, 1, 0] rfl ?_
  exact b_X0_nodesAbove_7 E hty kf_F v0 v1 0 1 0 k_v0 σ h
