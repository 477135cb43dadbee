/-! X11_lift -/
theorem d_X11_lift_0 : kf_dq cX11_lift 0 1 1 (.aload_n 0) := ⟨by decide +kernel, rfl⟩
theorem d_X11_lift_1 : kf_dq cX11_lift 1 4 3 (.getfield 19) := ⟨by decide +kernel, rfl⟩
theorem d_X11_lift_4 : kf_dq cX11_lift 4 5 1 (.iload_n 1) := ⟨by decide +kernel, rfl⟩
theorem d_X11_lift_5 : kf_dq cX11_lift 5 6 1 (.iload_n 2) := ⟨by decide +kernel, rfl⟩
theorem d_X11_lift_6 : kf_dq cX11_lift 6 9 3 (.invokevirtual 187) := ⟨by decide +kernel, rfl⟩
theorem d_X11_lift_9 : kf_dj cX11_lift 9 12 14 (.ifCond .ne) := ⟨5, by decide +kernel, rfl, by decide⟩
theorem d_X11_lift_12 : kf_dq cX11_lift 12 13 1 (.iconst 0) := ⟨by decide +kernel, rfl⟩
theorem d_X11_lift_13 : kf_dq cX11_lift 13 14 1 (.ireturn) := ⟨by decide +kernel, rfl⟩
theorem d_X11_lift_14 : kf_dq cX11_lift 14 15 1 (.aload_n 0) := ⟨by decide +kernel, rfl⟩
theorem d_X11_lift_15 : kf_dq cX11_lift 15 18 3 (.getfield 45) := ⟨by decide +kernel, rfl⟩
theorem d_X11_lift_18 : kf_dq cX11_lift 18 19 1 (.aload_n 0) := ⟨by decide +kernel, rfl⟩
theorem d_X11_lift_19 : kf_dq cX11_lift 19 22 3 (.getfield 38) := ⟨by decide +kernel, rfl⟩
theorem d_X11_lift_22 : kf_dq cX11_lift 22 25 3 (.invokevirtual 206) := ⟨by decide +kernel, rfl⟩
theorem d_X11_lift_25 : kf_dq cX11_lift 25 26 1 (.aload_n 0) := ⟨by decide +kernel, rfl⟩
theorem d_X11_lift_26 : kf_dq cX11_lift 26 29 3 (.getfield 54) := ⟨by decide +kernel, rfl⟩
theorem d_X11_lift_29 : kf_dq cX11_lift 29 30 1 (.aload_n 0) := ⟨by decide +kernel, rfl⟩
theorem d_X11_lift_30 : kf_dq cX11_lift 30 33 3 (.getfield 38) := ⟨by decide +kernel, rfl⟩
theorem d_X11_lift_33 : kf_dq cX11_lift 33 36 3 (.getfield 119) := ⟨by decide +kernel, rfl⟩
theorem d_X11_lift_36 : kf_dq cX11_lift 36 37 1 (.iload_n 1) := ⟨by decide +kernel, rfl⟩
theorem d_X11_lift_37 : kf_dq cX11_lift 37 38 1 (.aaload) := ⟨by decide +kernel, rfl⟩
theorem d_X11_lift_38 : kf_dq cX11_lift 38 39 1 (.iload_n 2) := ⟨by decide +kernel, rfl⟩
theorem d_X11_lift_39 : kf_dq cX11_lift 39 40 1 (.aload_n 0) := ⟨by decide +kernel, rfl⟩
theorem d_X11_lift_40 : kf_dq cX11_lift 40 43 3 (.getfield 38) := ⟨by decide +kernel, rfl⟩
theorem d_X11_lift_43 : kf_dq cX11_lift 43 46 3 (.getfield 180) := ⟨by decide +kernel, rfl⟩
theorem d_X11_lift_46 : kf_dq cX11_lift 46 49 3 (.invokevirtual 210) := ⟨by decide +kernel, rfl⟩
theorem d_X11_lift_49 : kf_dq cX11_lift 49 50 1 (.aload_n 0) := ⟨by decide +kernel, rfl⟩
theorem d_X11_lift_50 : kf_dq cX11_lift 50 53 3 (.getfield 38) := ⟨by decide +kernel, rfl⟩
theorem d_X11_lift_53 : kf_dq cX11_lift 53 56 3 (.getfield 155) := ⟨by decide +kernel, rfl⟩
theorem d_X11_lift_56 : kf_dq cX11_lift 56 57 1 (.iload_n 2) := ⟨by decide +kernel, rfl⟩
theorem d_X11_lift_57 : kf_dq cX11_lift 57 58 1 (.dup2) := ⟨by decide +kernel, rfl⟩
theorem d_X11_lift_58 : kf_dq cX11_lift 58 59 1 (.iaload) := ⟨by decide +kernel, rfl⟩
theorem d_X11_lift_59 : kf_dq cX11_lift 59 60 1 (.iconst 1) := ⟨by decide +kernel, rfl⟩
theorem d_X11_lift_60 : kf_dq cX11_lift 60 61 1 (.iadd) := ⟨by decide +kernel, rfl⟩
theorem d_X11_lift_61 : kf_dq cX11_lift 61 62 1 (.iastore) := ⟨by decide +kernel, rfl⟩
theorem d_X11_lift_62 : kf_dq cX11_lift 62 63 1 (.iconst 1) := ⟨by decide +kernel, rfl⟩
theorem d_X11_lift_63 : kf_dq cX11_lift 63 64 1 (.ireturn) := ⟨by decide +kernel, rfl⟩
def f_X11_lift (v0 : Nat) (v1 : Int32) (v2 : Int32) (σ : kf_St) : Option (Int32 × kf_St) :=
  (f_X10_hasBoth (kf_rf v0 1) v1 v2 σ).bind fun q_1 =>
  if q_1.1 = 0 then
    some (0, q_1.2)
  else
    (f_X3_remember (kf_rf v0 5) (kf_rf v0 4) q_1.2).bind fun q_3 =>
    if kf_ix v1 (kf_ln (kf_rf (kf_rf v0 4) 0)) = true then
    (f_X4_liftBy (kf_rf v0 6) (kf_rf (kf_rf (kf_rf v0 4) 0) (Int32.toNatClampNeg v1)) v2 (q_3.1 (kf_rf v0 4) 3) q_3).bind fun q_5 =>
    if kf_ix v2 (kf_ln (kf_rf (kf_rf v0 4) 1)) = true then
    if kf_ix v2 (kf_ln (kf_rf (kf_rf v0 4) 1)) = true then
    kf_lt (kf_wi q_5 (kf_rf (kf_rf v0 4) 1) (Int32.toNatClampNeg v2) ((q_5.1 (kf_rf (kf_rf v0 4) 1) (Int32.toNatClampNeg v2)) + 1)) fun σ_8 =>
    some (1, σ_8)
    else none
    else none
    else none
set_option maxRecDepth 100000 in
set_option maxHeartbeats 4000000 in
theorem c_X11_lift {G : kf_G} (hty : kf_wt G) (v0 : Nat) (v1 : Int32) (v2 : Int32) (k_v0 : kf_kd G v0 = 12) (σ : kf_St) {q : (Int32 × kf_St)} (h : f_X11_lift v0 v1 v2 σ = some q) : kf_Ct (6) yX11_lift cX11_lift 3 (some .boolean) G [.ref (kf_ad G v0), .int v1, .int v2] σ (some (.int q.1)) q.2 := by
  refine kf_Ct.of hty.1 (lv := [(0, .ref (kf_ad G v0)), (1, .int v1), (2, .int v2)]) (by decide +kernel) rfl (Nat.le_of_ble_eq_true rfl) (fun X E => ?_)
  unfold f_X11_lift at h
  refine wa_aload_n 0 rfl E d_X11_lift_0 ?_
  refine wa_getR fl_X11_19 k_v0 rfl E d_X11_lift_1 ?_
  refine wa_iload_n 1 rfl E d_X11_lift_4 ?_
  refine wa_iload_n 2 rfl E d_X11_lift_5 ?_
  obtain ⟨q_1, hq_1, h⟩ := kf_bd h
  refine wa_callV (st2 := [.int q_1.1]) (c_X10_hasBoth hty (kf_rf v0 1) v1 v2 (kf_wtf hty 1 10 k_v0 (by decide) rfl) σ hq_1) mv_X10_hasBoth ml_X11_187 (kf_wtf hty 1 10 k_v0 (by decide) rfl) rfl (Nat.le_of_ble_eq_true rfl) rfl (Nat.le_of_ble_eq_true rfl) E d_X11_lift_6 rfl ?_
  refine wa_if_ne E d_X11_lift_9 (fun c_2 => ?_) (fun c_2 => ?_)
  · replace h := kf_iff c_2 h
    refine wa_aload_n 0 rfl E d_X11_lift_14 ?_
    refine wa_getR fl_X11_45 k_v0 rfl E d_X11_lift_15 ?_
    refine wa_aload_n 0 rfl E d_X11_lift_18 ?_
    refine wa_getR fl_X11_38 k_v0 rfl E d_X11_lift_19 ?_
    obtain ⟨q_3, hq_3, h⟩ := kf_bd h
    refine wa_callV (st2 := []) (c_X3_remember hty (kf_rf v0 5) (kf_rf v0 4) (kf_wtf hty 5 3 k_v0 (by decide) rfl) (kf_wtf hty 4 7 k_v0 (by decide) rfl) q_1.2 hq_3) mv_X3_remember ml_X11_206 (kf_wtf hty 5 3 k_v0 (by decide) rfl) rfl (Nat.le_of_ble_eq_true rfl) rfl (Nat.le_of_ble_eq_true rfl) E d_X11_lift_22 rfl ?_
    refine wa_aload_n 0 rfl E d_X11_lift_25 ?_
    refine wa_getR fl_X11_54 k_v0 rfl E d_X11_lift_26 ?_
    refine wa_aload_n 0 rfl E d_X11_lift_29 ?_
    refine wa_getR fl_X11_38 k_v0 rfl E d_X11_lift_30 ?_
    refine wa_getR fl_X11_119 (kf_wtf hty 4 7 k_v0 (by decide) rfl) rfl E d_X11_lift_33 ?_
    refine wa_iload_n 1 rfl E d_X11_lift_36 ?_
    obtain ⟨g_4, h⟩ := kf_gd h
    refine wa_aald (kf_wtf hty 0 53 (kf_wtf hty 4 7 k_v0 (by decide) rfl) (by decide) rfl) g_4 E d_X11_lift_37 ?_
    refine wa_iload_n 2 rfl E d_X11_lift_38 ?_
    refine wa_aload_n 0 rfl E d_X11_lift_39 ?_
    refine wa_getR fl_X11_38 k_v0 rfl E d_X11_lift_40 ?_
    refine wa_getI fl_X11_180 (kf_wtf hty 4 7 k_v0 (by decide) rfl) rfl E d_X11_lift_43 ?_
    obtain ⟨q_5, hq_5, h⟩ := kf_bd h
    refine wa_callV (st2 := []) (c_X4_liftBy hty (kf_rf v0 6) (kf_rf (kf_rf (kf_rf v0 4) 0) (Int32.toNatClampNeg v1)) v2 (q_3.1 (kf_rf v0 4) 3) (kf_wtf hty 6 4 k_v0 (by decide) rfl) (kf_wta hty (kf_wtf hty 0 53 (kf_wtf hty 4 7 k_v0 (by decide) rfl) (by decide) rfl) g_4) q_3 hq_5) mv_X4_liftBy ml_X11_210 (kf_wtf hty 6 4 k_v0 (by decide) rfl) rfl (Nat.le_of_ble_eq_true rfl) rfl (Nat.le_of_ble_eq_true rfl) E d_X11_lift_46 rfl ?_
    refine wa_aload_n 0 rfl E d_X11_lift_49 ?_
    refine wa_getR fl_X11_38 k_v0 rfl E d_X11_lift_50 ?_
    refine wa_getR fl_X11_155 (kf_wtf hty 4 7 k_v0 (by decide) rfl) rfl E d_X11_lift_53 ?_
    refine wa_iload_n 2 rfl E d_X11_lift_56 ?_
    refine wa_dup2 rfl rfl E d_X11_lift_57 ?_
    obtain ⟨g_6, h⟩ := kf_gd h
    refine wa_iald (kf_wtf hty 1 49 (kf_wtf hty 4 7 k_v0 (by decide) rfl) (by decide) rfl) g_6 E d_X11_lift_58 ?_
    refine wa_iconst 1 ic_1 E d_X11_lift_59 ?_
    refine wa_iadd E d_X11_lift_60 ?_
    obtain ⟨g_7, h⟩ := kf_gd h
    obtain ⟨σ_8, eσ_8, h⟩ := kf_lte h
    refine wa_iast (kf_wtf hty 1 49 (kf_wtf hty 4 7 k_v0 (by decide) rfl) (by decide) rfl) g_7 E d_X11_lift_61 eσ_8 ?_
    refine wa_iconst 1 ic_1 E d_X11_lift_62 ?_
    cases h
    exact wa_zret kf_z1 E d_X11_lift_63
  · replace h := kf_ift c_2 h
    refine wa_iconst 0 ic_0 E d_X11_lift_12 ?_
    cases h
    exact wa_zret kf_z0 E d_X11_lift_13
/-! X11_polish -/
theorem d_X11_polish_0 : kf_dq cX11_polish 0 1 1 (.aload_n 0) := ⟨by decide +kernel, rfl⟩
theorem d_X11_polish_1 : kf_dq cX11_polish 1 4 3 (.getfield 19) := ⟨by decide +kernel, rfl⟩
theorem d_X11_polish_4 : kf_dq cX11_polish 4 5 1 (.iload_n 1) := ⟨by decide +kernel, rfl⟩
theorem d_X11_polish_5 : kf_dq cX11_polish 5 8 3 (.invokevirtual 116) := ⟨by decide +kernel, rfl⟩
theorem d_X11_polish_8 : kf_dj cX11_polish 8 11 13 (.ifCond .ne) := ⟨5, by decide +kernel, rfl, by decide⟩
theorem d_X11_polish_11 : kf_dq cX11_polish 11 12 1 (.iconst 0) := ⟨by decide +kernel, rfl⟩
theorem d_X11_polish_12 : kf_dq cX11_polish 12 13 1 (.ireturn) := ⟨by decide +kernel, rfl⟩
theorem d_X11_polish_13 : kf_dq cX11_polish 13 14 1 (.aload_n 0) := ⟨by decide +kernel, rfl⟩
theorem d_X11_polish_14 : kf_dq cX11_polish 14 17 3 (.getfield 45) := ⟨by decide +kernel, rfl⟩
theorem d_X11_polish_17 : kf_dq cX11_polish 17 18 1 (.aload_n 0) := ⟨by decide +kernel, rfl⟩
theorem d_X11_polish_18 : kf_dq cX11_polish 18 21 3 (.getfield 38) := ⟨by decide +kernel, rfl⟩
theorem d_X11_polish_21 : kf_dq cX11_polish 21 24 3 (.invokevirtual 206) := ⟨by decide +kernel, rfl⟩
theorem d_X11_polish_24 : kf_dq cX11_polish 24 25 1 (.aload_n 0) := ⟨by decide +kernel, rfl⟩
theorem d_X11_polish_25 : kf_dq cX11_polish 25 28 3 (.getfield 54) := ⟨by decide +kernel, rfl⟩
theorem d_X11_polish_28 : kf_dq cX11_polish 28 29 1 (.aload_n 0) := ⟨by decide +kernel, rfl⟩
theorem d_X11_polish_29 : kf_dq cX11_polish 29 32 3 (.getfield 38) := ⟨by decide +kernel, rfl⟩
theorem d_X11_polish_32 : kf_dq cX11_polish 32 35 3 (.getfield 119) := ⟨by decide +kernel, rfl⟩
theorem d_X11_polish_35 : kf_dq cX11_polish 35 36 1 (.iload_n 1) := ⟨by decide +kernel, rfl⟩
theorem d_X11_polish_36 : kf_dq cX11_polish 36 37 1 (.aaload) := ⟨by decide +kernel, rfl⟩
theorem d_X11_polish_37 : kf_dq cX11_polish 37 38 1 (.iload_n 1) := ⟨by decide +kernel, rfl⟩
theorem d_X11_polish_38 : kf_dq cX11_polish 38 41 3 (.invokevirtual 214) := ⟨by decide +kernel, rfl⟩
theorem d_X11_polish_41 : kf_dq cX11_polish 41 42 1 (.iconst 1) := ⟨by decide +kernel, rfl⟩
theorem d_X11_polish_42 : kf_dq cX11_polish 42 43 1 (.ireturn) := ⟨by decide +kernel, rfl⟩
def f_X11_polish (v0 : Nat) (v1 : Int32) (σ : kf_St) : Option (Int32 × kf_St) :=
  (f_X10_hasDoor (kf_rf v0 1) v1 σ).bind fun q_1 =>
  if q_1.1 = 0 then
    some (0, q_1.2)
  else
    (f_X3_remember (kf_rf v0 5) (kf_rf v0 4) q_1.2).bind fun q_3 =>
    if kf_ix v1 (kf_ln (kf_rf (kf_rf v0 4) 0)) = true then
    (f_X4_rub (kf_rf v0 6) (kf_rf (kf_rf (kf_rf v0 4) 0) (Int32.toNatClampNeg v1)) v1 q_3).bind fun q_5 =>
    some (1, q_5)
    else none
set_option maxRecDepth 100000 in
set_option maxHeartbeats 4000000 in
theorem c_X11_polish {G : kf_G} (hty : kf_wt G) (v0 : Nat) (v1 : Int32) (k_v0 : kf_kd G v0 = 12) (σ : kf_St) {q : (Int32 × kf_St)} (h : f_X11_polish v0 v1 σ = some q) : kf_Ct (4) yX11_polish cX11_polish 2 (some .boolean) G [.ref (kf_ad G v0), .int v1] σ (some (.int q.1)) q.2 := by
  refine kf_Ct.of hty.1 (lv := [(0, .ref (kf_ad G v0)), (1, .int v1)]) (by decide +kernel) rfl (Nat.le_of_ble_eq_true rfl) (fun X E => ?_)
  unfold f_X11_polish at h
  refine wa_aload_n 0 rfl E d_X11_polish_0 ?_
  refine wa_getR fl_X11_19 k_v0 rfl E d_X11_polish_1 ?_
  refine wa_iload_n 1 rfl E d_X11_polish_4 ?_
  obtain ⟨q_1, hq_1, h⟩ := kf_bd h
  refine wa_callV (st2 := [.int q_1.1]) (c_X10_hasDoor hty (kf_rf v0 1) v1 (kf_wtf hty 1 10 k_v0 (by decide) rfl) σ hq_1) mv_X10_hasDoor ml_X11_116 (kf_wtf hty 1 10 k_v0 (by decide) rfl) rfl (Nat.le_of_ble_eq_true rfl) rfl (Nat.le_of_ble_eq_true rfl) E d_X11_polish_5 rfl ?_
  refine wa_if_ne E d_X11_polish_8 (fun c_2 => ?_) (fun c_2 => ?_)
  · replace h := kf_iff c_2 h
    refine wa_aload_n 0 rfl E d_X11_polish_13 ?_
    refine wa_getR fl_X11_45 k_v0 rfl E d_X11_polish_14 ?_
    refine wa_aload_n 0 rfl E d_X11_polish_17 ?_
    refine wa_getR fl_X11_38 k_v0 rfl E d_X11_polish_18 ?_
    obtain ⟨q_3, hq_3, h⟩ := kf_bd h
    refine wa_callV (st2 := []) (c_X3_remember hty (kf_rf v0 5) (kf_rf v0 4) (kf_wtf hty 5 3 k_v0 (by decide) rfl) (kf_wtf hty 4 7 k_v0 (by decide) rfl) q_1.2 hq_3) mv_X3_remember ml_X11_206 (kf_wtf hty 5 3 k_v0 (by decide) rfl) rfl (Nat.le_of_ble_eq_true rfl) rfl (Nat.le_of_ble_eq_true rfl) E d_X11_polish_21 rfl ?_
    refine wa_aload_n 0 rfl E d_X11_polish_24 ?_
    refine wa_getR fl_X11_54 k_v0 rfl E d_X11_polish_25 ?_
    refine wa_aload_n 0 rfl E d_X11_polish_28 ?_
    refine wa_getR fl_X11_38 k_v0 rfl E d_X11_polish_29 ?_
    refine wa_getR fl_X11_119 (kf_wtf hty 4 7 k_v0 (by decide) rfl) rfl E d_X11_polish_32 ?_
    refine wa_iload_n 1 rfl E d_X11_polish_35 ?_
    obtain ⟨g_4, h⟩ := kf_gd h
    refine wa_aald (kf_wtf hty 0 53 (kf_wtf hty 4 7 k_v0 (by decide) rfl) (by decide) rfl) g_4 E d_X11_polish_36 ?_
    refine wa_iload_n 1 rfl E d_X11_polish_37 ?_
    obtain ⟨q_5, hq_5, h⟩ := kf_bd h
    refine wa_callV (st2 := []) (c_X4_rub hty (kf_rf v0 6) (kf_rf (kf_rf (kf_rf v0 4) 0) (Int32.toNatClampNeg v1)) v1 (kf_wtf hty 6 4 k_v0 (by decide) rfl) (kf_wta hty (kf_wtf hty 0 53 (kf_wtf hty 4 7 k_v0 (by decide) rfl) (by decide) rfl) g_4) q_3 hq_5) mv_X4_rub ml_X11_214 (kf_wtf hty 6 4 k_v0 (by decide) rfl) rfl (Nat.le_of_ble_eq_true rfl) rfl (Nat.le_of_ble_eq_true rfl) E d_X11_polish_38 rfl ?_
    refine wa_iconst 1 ic_1 E d_X11_polish_41 ?_
    cases h
    exact wa_zret kf_z1 E d_X11_polish_42
  · replace h := kf_ift c_2 h
    refine wa_iconst 0 ic_0 E d_X11_polish_11 ?_
    cases h
    exact wa_zret kf_z0 E d_X11_polish_12
/-! X11_isPart -/
theorem d_X11_isPart_0 : kf_dq cX11_isPart 0 1 1 (.iload_n 0) := ⟨by decide +kernel, rfl⟩
theorem d_X11_isPart_1 : kf_dj cX11_isPart 1 4 13 (.ifCond .lt) := ⟨12, by decide +kernel, rfl, by decide⟩
theorem d_X11_isPart_4 : kf_dq cX11_isPart 4 5 1 (.iload_n 0) := ⟨by decide +kernel, rfl⟩
theorem d_X11_isPart_5 : kf_dq cX11_isPart 5 6 1 (.iconst 4) := ⟨by decide +kernel, rfl⟩
theorem d_X11_isPart_6 : kf_dj cX11_isPart 6 9 13 (.if_icmp .ge) := ⟨7, by decide +kernel, rfl, by decide⟩
theorem d_X11_isPart_9 : kf_dq cX11_isPart 9 10 1 (.iconst 1) := ⟨by decide +kernel, rfl⟩
theorem d_X11_isPart_10 : kf_dj cX11_isPart 10 13 14 .goto := ⟨4, by decide +kernel, rfl, by decide⟩
theorem d_X11_isPart_13 : kf_dq cX11_isPart 13 14 1 (.iconst 0) := ⟨by decide +kernel, rfl⟩
theorem d_X11_isPart_14 : kf_dq cX11_isPart 14 15 1 (.ireturn) := ⟨by decide +kernel, rfl⟩
def f_X11_isPart (v0 : Int32) (σ : kf_St) : Option (Int32 × kf_St) :=
  if v0 < 0 then
    some (0, σ)
  else
    if 4 ≤ v0 then
      some (0, σ)
    else
      some (1, σ)
set_option maxRecDepth 100000 in
set_option maxHeartbeats 4000000 in
theorem c_X11_isPart {G : kf_G} (hty : kf_wt G) (v0 : Int32) (σ : kf_St) {q : (Int32 × kf_St)} (h : f_X11_isPart v0 σ = some q) : kf_Ct (1) yX11_isPart cX11_isPart 1 (some .boolean) G [.int v0] σ (some (.int q.1)) q.2 := by
  refine kf_Ct.of hty.1 (lv := [(0, .int v0)]) (by decide +kernel) rfl (Nat.le_of_ble_eq_true rfl) (fun X E => ?_)
  unfold f_X11_isPart at h
  refine wa_iload_n 0 rfl E d_X11_isPart_0 ?_
  refine wa_if_lt E d_X11_isPart_1 (fun c_1 => ?_) (fun c_1 => ?_)
  · replace h := kf_ift c_1 h
    refine wa_iconst 0 ic_0 E d_X11_isPart_13 ?_
    cases h
    exact wa_zret kf_z0 E d_X11_isPart_14
  · replace h := kf_iff c_1 h
    refine wa_iload_n 0 rfl E d_X11_isPart_4 ?_
    refine wa_iconst 4 ic_4 E d_X11_isPart_5 ?_
    refine wa_icmp_ge E d_X11_isPart_6 (fun c_2 => ?_) (fun c_2 => ?_)
    · replace h := kf_ift c_2 h
      refine wa_iconst 0 ic_0 E d_X11_isPart_13 ?_
      cases h
      exact wa_zret kf_z0 E d_X11_isPart_14
    · replace h := kf_iff c_2 h
      refine wa_iconst 1 ic_1 E d_X11_isPart_9 ?_
      refine wa_goto E d_X11_isPart_10 ?_
      cases h
      exact wa_zret kf_z1 E d_X11_isPart_14
/-! X11_file -/
theorem d_X11_file_0 : kf_dq cX11_file 0 1 1 (.aload_n 0) := ⟨by decide +kernel, rfl⟩
theorem d_X11_file_1 : kf_dq cX11_file 1 4 3 (.getfield 19) := ⟨by decide +kernel, rfl⟩
theorem d_X11_file_4 : kf_dq cX11_file 4 5 1 (.iload_n 1) := ⟨by decide +kernel, rfl⟩
theorem d_X11_file_5 : kf_dq cX11_file 5 8 3 (.invokevirtual 116) := ⟨by decide +kernel, rfl⟩
theorem d_X11_file_8 : kf_dj cX11_file 8 11 35 (.ifCond .eq) := ⟨27, by decide +kernel, rfl, by decide⟩
theorem d_X11_file_11 : kf_dq cX11_file 11 12 1 (.iload_n 2) := ⟨by decide +kernel, rfl⟩
theorem d_X11_file_12 : kf_dq cX11_file 12 15 3 (.invokestatic 218) := ⟨by decide +kernel, rfl⟩
theorem d_X11_file_15 : kf_dj cX11_file 15 18 35 (.ifCond .eq) := ⟨20, by decide +kernel, rfl, by decide⟩
theorem d_X11_file_18 : kf_dq cX11_file 18 19 1 (.aload_n 0) := ⟨by decide +kernel, rfl⟩
theorem d_X11_file_19 : kf_dq cX11_file 19 22 3 (.getfield 38) := ⟨by decide +kernel, rfl⟩
theorem d_X11_file_22 : kf_dq cX11_file 22 25 3 (.getfield 119) := ⟨by decide +kernel, rfl⟩
theorem d_X11_file_25 : kf_dq cX11_file 25 26 1 (.iload_n 1) := ⟨by decide +kernel, rfl⟩
theorem d_X11_file_26 : kf_dq cX11_file 26 27 1 (.aaload) := ⟨by decide +kernel, rfl⟩
theorem d_X11_file_27 : kf_dq cX11_file 27 30 3 (.getfield 123) := ⟨by decide +kernel, rfl⟩
theorem d_X11_file_30 : kf_dq cX11_file 30 31 1 (.iload_n 2) := ⟨by decide +kernel, rfl⟩
theorem d_X11_file_31 : kf_dq cX11_file 31 32 1 (.iaload) := ⟨by decide +kernel, rfl⟩
theorem d_X11_file_32 : kf_dj cX11_file 32 35 37 (.ifCond .ne) := ⟨5, by decide +kernel, rfl, by decide⟩
theorem d_X11_file_35 : kf_dq cX11_file 35 36 1 (.iconst 0) := ⟨by decide +kernel, rfl⟩
theorem d_X11_file_36 : kf_dq cX11_file 36 37 1 (.ireturn) := ⟨by decide +kernel, rfl⟩
theorem d_X11_file_37 : kf_dq cX11_file 37 38 1 (.aload_n 0) := ⟨by decide +kernel, rfl⟩
theorem d_X11_file_38 : kf_dq cX11_file 38 41 3 (.getfield 45) := ⟨by decide +kernel, rfl⟩
theorem d_X11_file_41 : kf_dq cX11_file 41 42 1 (.aload_n 0) := ⟨by decide +kernel, rfl⟩
theorem d_X11_file_42 : kf_dq cX11_file 42 45 3 (.getfield 38) := ⟨by decide +kernel, rfl⟩
theorem d_X11_file_45 : kf_dq cX11_file 45 48 3 (.invokevirtual 206) := ⟨by decide +kernel, rfl⟩
theorem d_X11_file_48 : kf_dq cX11_file 48 49 1 (.aload_n 0) := ⟨by decide +kernel, rfl⟩
theorem d_X11_file_49 : kf_dq cX11_file 49 52 3 (.getfield 38) := ⟨by decide +kernel, rfl⟩
theorem d_X11_file_52 : kf_dq cX11_file 52 55 3 (.getfield 119) := ⟨by decide +kernel, rfl⟩
theorem d_X11_file_55 : kf_dq cX11_file 55 56 1 (.iload_n 1) := ⟨by decide +kernel, rfl⟩
theorem d_X11_file_56 : kf_dq cX11_file 56 57 1 (.aaload) := ⟨by decide +kernel, rfl⟩
theorem d_X11_file_57 : kf_dq cX11_file 57 60 3 (.getfield 123) := ⟨by decide +kernel, rfl⟩
theorem d_X11_file_60 : kf_dq cX11_file 60 61 1 (.iload_n 2) := ⟨by decide +kernel, rfl⟩
theorem d_X11_file_61 : kf_dq cX11_file 61 62 1 (.iconst 0) := ⟨by decide +kernel, rfl⟩
theorem d_X11_file_62 : kf_dq cX11_file 62 63 1 (.iastore) := ⟨by decide +kernel, rfl⟩
theorem d_X11_file_63 : kf_dq cX11_file 63 64 1 (.iconst 1) := ⟨by decide +kernel, rfl⟩
theorem d_X11_file_64 : kf_dq cX11_file 64 65 1 (.ireturn) := ⟨by decide +kernel, rfl⟩
def f_X11_file (v0 : Nat) (v1 : Int32) (v2 : Int32) (σ : kf_St) : Option (Int32 × kf_St) :=
  (f_X10_hasDoor (kf_rf v0 1) v1 σ).bind fun q_1 =>
  if q_1.1 = 0 then
    some (0, q_1.2)
  else
    (f_X11_isPart v2 q_1.2).bind fun q_3 =>
    if q_3.1 = 0 then
      some (0, q_3.2)
    else
      if kf_ix v1 (kf_ln (kf_rf (kf_rf v0 4) 0)) = true then
      if kf_ix v2 (kf_ln (kf_rf (kf_rf (kf_rf (kf_rf v0 4) 0) (Int32.toNatClampNeg v1)) 0)) = true then
      if (q_3.2.1 (kf_rf (kf_rf (kf_rf (kf_rf v0 4) 0) (Int32.toNatClampNeg v1)) 0) (Int32.toNatClampNeg v2)) = 0 then
        some (0, q_3.2)
      else
        (f_X3_remember (kf_rf v0 5) (kf_rf v0 4) q_3.2).bind fun q_8 =>
        if kf_ix v1 (kf_ln (kf_rf (kf_rf v0 4) 0)) = true then
        if kf_ix v2 (kf_ln (kf_rf (kf_rf (kf_rf (kf_rf v0 4) 0) (Int32.toNatClampNeg v1)) 0)) = true then
        kf_lt (kf_wi q_8 (kf_rf (kf_rf (kf_rf (kf_rf v0 4) 0) (Int32.toNatClampNeg v1)) 0) (Int32.toNatClampNeg v2) 0) fun σ_11 =>
        some (1, σ_11)
        else none
        else none
      else none
      else none
set_option maxRecDepth 100000 in
set_option maxHeartbeats 4000000 in
theorem c_X11_file {G : kf_G} (hty : kf_wt G) (v0 : Nat) (v1 : Int32) (v2 : Int32) (k_v0 : kf_kd G v0 = 12) (σ : kf_St) {q : (Int32 × kf_St)} (h : f_X11_file v0 v1 v2 σ = some q) : kf_Ct (4) yX11_file cX11_file 3 (some .boolean) G [.ref (kf_ad G v0), .int v1, .int v2] σ (some (.int q.1)) q.2 := by
  refine kf_Ct.of hty.1 (lv := [(0, .ref (kf_ad G v0)), (1, .int v1), (2, .int v2)]) (by decide +kernel) rfl (Nat.le_of_ble_eq_true rfl) (fun X E => ?_)
  unfold f_X11_file at h
  refine wa_aload_n 0 rfl E d_X11_file_0 ?_
  refine wa_getR fl_X11_19 k_v0 rfl E d_X11_file_1 ?_
  refine wa_iload_n 1 rfl E d_X11_file_4 ?_
  obtain ⟨q_1, hq_1, h⟩ := kf_bd h
  refine wa_callV (st2 := [.int q_1.1]) (c_X10_hasDoor hty (kf_rf v0 1) v1 (kf_wtf hty 1 10 k_v0 (by decide) rfl) σ hq_1) mv_X10_hasDoor ml_X11_116 (kf_wtf hty 1 10 k_v0 (by decide) rfl) rfl (Nat.le_of_ble_eq_true rfl) rfl (Nat.le_of_ble_eq_true rfl) E d_X11_file_5 rfl ?_
  refine wa_if_eq E d_X11_file_8 (fun c_2 => ?_) (fun c_2 => ?_)
  · replace h := kf_ift c_2 h
    refine wa_iconst 0 ic_0 E d_X11_file_35 ?_
    cases h
    exact wa_zret kf_z0 E d_X11_file_36
  · replace h := kf_iff c_2 h
    refine wa_iload_n 2 rfl E d_X11_file_11 ?_
    obtain ⟨q_3, hq_3, h⟩ := kf_bd h
    refine wa_callS (st2 := [.int q_3.1]) (c_X11_isPart hty v2 q_1.2 hq_3) mt_X11_isPart ml_X11_218 rfl (Nat.le_of_ble_eq_true rfl) rfl (Nat.le_of_ble_eq_true rfl) E d_X11_file_12 rfl ?_
    refine wa_if_eq E d_X11_file_15 (fun c_4 => ?_) (fun c_4 => ?_)
    · replace h := kf_ift c_4 h
      refine wa_iconst 0 ic_0 E d_X11_file_35 ?_
      cases h
      exact wa_zret kf_z0 E d_X11_file_36
    · replace h := kf_iff c_4 h
      refine wa_aload_n 0 rfl E d_X11_file_18 ?_
      refine wa_getR fl_X11_38 k_v0 rfl E d_X11_file_19 ?_
      refine wa_getR fl_X11_119 (kf_wtf hty 4 7 k_v0 (by decide) rfl) rfl E d_X11_file_22 ?_
      refine wa_iload_n 1 rfl E d_X11_file_25 ?_
      obtain ⟨g_5, h⟩ := kf_gd h
      refine wa_aald (kf_wtf hty 0 53 (kf_wtf hty 4 7 k_v0 (by decide) rfl) (by decide) rfl) g_5 E d_X11_file_26 ?_
      refine wa_getR fl_X11_123 (kf_wta hty (kf_wtf hty 0 53 (kf_wtf hty 4 7 k_v0 (by decide) rfl) (by decide) rfl) g_5) rfl E d_X11_file_27 ?_
      refine wa_iload_n 2 rfl E d_X11_file_30 ?_
      obtain ⟨g_6, h⟩ := kf_gd h
      refine wa_iald (kf_wtf hty 0 49 (kf_wta hty (kf_wtf hty 0 53 (kf_wtf hty 4 7 k_v0 (by decide) rfl) (by decide) rfl) g_5) (by decide) rfl) g_6 E d_X11_file_31 ?_
      refine wa_if_ne E d_X11_file_32 (fun c_7 => ?_) (fun c_7 => ?_)
      · replace h := kf_iff c_7 h
        refine wa_aload_n 0 rfl E d_X11_file_37 ?_
        refine wa_getR fl_X11_45 k_v0 rfl E d_X11_file_38 ?_
        refine wa_aload_n 0 rfl E d_X11_file_41 ?_
        refine wa_getR fl_X11_38 k_v0 rfl E d_X11_file_42 ?_
        obtain ⟨q_8, hq_8, h⟩ := kf_bd h
        refine wa_callV (st2 := []) (c_X3_remember hty (kf_rf v0 5) (kf_rf v0 4) (kf_wtf hty 5 3 k_v0 (by decide) rfl) (kf_wtf hty 4 7 k_v0 (by decide) rfl) q_3.2 hq_8) mv_X3_remember ml_X11_206 (kf_wtf hty 5 3 k_v0 (by decide) rfl) rfl (Nat.le_of_ble_eq_true rfl) rfl (Nat.le_of_ble_eq_true rfl) E d_X11_file_45 rfl ?_
        refine wa_aload_n 0 rfl E d_X11_file_48 ?_
        refine wa_getR fl_X11_38 k_v0 rfl E d_X11_file_49 ?_
        refine wa_getR fl_X11_119 (kf_wtf hty 4 7 k_v0 (by decide) rfl) rfl E d_X11_file_52 ?_
        refine wa_iload_n 1 rfl E d_X11_file_55 ?_
        obtain ⟨g_9, h⟩ := kf_gd h
        refine wa_aald (kf_wtf hty 0 53 (kf_wtf hty 4 7 k_v0 (by decide) rfl) (by decide) rfl) g_9 E d_X11_file_56 ?_
        refine wa_getR fl_X11_123 (kf_wta hty (kf_wtf hty 0 53 (kf_wtf hty 4 7 k_v0 (by decide) rfl) (by decide) rfl) g_9) rfl E d_X11_file_57 ?_
        refine wa_iload_n 2 rfl E d_X11_file_60 ?_
        refine wa_iconst 0 ic_0 E d_X11_file_61 ?_
        obtain ⟨g_10, h⟩ := kf_gd h
        obtain ⟨σ_11, eσ_11, h⟩ := kf_lte h
        refine wa_iast (kf_wtf hty 0 49 (kf_wta hty (kf_wtf hty 0 53 (kf_wtf hty 4 7 k_v0 (by decide) rfl) (by decide) rfl) g_9) (by decide) rfl) g_10 E d_X11_file_62 eσ_11 ?_
        refine wa_iconst 1 ic_1 E d_X11_file_63 ?_
        cases h
        exact wa_zret kf_z1 E d_X11_file_64
      · replace h := kf_ift c_7 h
        refine wa_iconst 0 ic_0 E d_X11_file_35 ?_
        cases h
        exact wa_zret kf_z0 E d_X11_file_36
/-! X11_keep -/
theorem d_X11_keep_0 : kf_dq cX11_keep 0 1 1 (.aload_n 0) := ⟨by decide +kernel, rfl⟩
theorem d_X11_keep_1 : kf_dq cX11_keep 1 4 3 (.getfield 19) := ⟨by decide +kernel, rfl⟩
theorem d_X11_keep_4 : kf_dq cX11_keep 4 5 1 (.iload_n 1) := ⟨by decide +kernel, rfl⟩
theorem d_X11_keep_5 : kf_dq cX11_keep 5 8 3 (.invokevirtual 162) := ⟨by decide +kernel, rfl⟩
theorem d_X11_keep_8 : kf_dj cX11_keep 8 11 34 (.ifCond .eq) := ⟨26, by decide +kernel, rfl, by decide⟩
theorem d_X11_keep_11 : kf_dq cX11_keep 11 12 1 (.aload_n 0) := ⟨by decide +kernel, rfl⟩
theorem d_X11_keep_12 : kf_dq cX11_keep 12 15 3 (.getfield 38) := ⟨by decide +kernel, rfl⟩
theorem d_X11_keep_15 : kf_dq cX11_keep 15 18 3 (.getfield 177) := ⟨by decide +kernel, rfl⟩
theorem d_X11_keep_18 : kf_dq cX11_keep 18 19 1 (.iload_n 1) := ⟨by decide +kernel, rfl⟩
theorem d_X11_keep_19 : kf_dq cX11_keep 19 20 1 (.ishr) := ⟨by decide +kernel, rfl⟩
theorem d_X11_keep_20 : kf_dq cX11_keep 20 21 1 (.iconst 1) := ⟨by decide +kernel, rfl⟩
theorem d_X11_keep_21 : kf_dq cX11_keep 21 22 1 (.iand) := ⟨by decide +kernel, rfl⟩
theorem d_X11_keep_22 : kf_dq cX11_keep 22 23 1 (.iload_n 2) := ⟨by decide +kernel, rfl⟩
theorem d_X11_keep_23 : kf_dj cX11_keep 23 26 30 (.ifCond .eq) := ⟨7, by decide +kernel, rfl, by decide⟩
theorem d_X11_keep_26 : kf_dq cX11_keep 26 27 1 (.iconst 1) := ⟨by decide +kernel, rfl⟩
theorem d_X11_keep_27 : kf_dj cX11_keep 27 30 31 .goto := ⟨4, by decide +kernel, rfl, by decide⟩
theorem d_X11_keep_30 : kf_dq cX11_keep 30 31 1 (.iconst 0) := ⟨by decide +kernel, rfl⟩
theorem d_X11_keep_31 : kf_dj cX11_keep 31 34 36 (.if_icmp .ne) := ⟨5, by decide +kernel, rfl, by decide⟩
theorem d_X11_keep_34 : kf_dq cX11_keep 34 35 1 (.iconst 0) := ⟨by decide +kernel, rfl⟩
theorem d_X11_keep_35 : kf_dq cX11_keep 35 36 1 (.ireturn) := ⟨by decide +kernel, rfl⟩
theorem d_X11_keep_36 : kf_dq cX11_keep 36 37 1 (.aload_n 0) := ⟨by decide +kernel, rfl⟩
theorem d_X11_keep_37 : kf_dq cX11_keep 37 40 3 (.getfield 45) := ⟨by decide +kernel, rfl⟩
theorem d_X11_keep_40 : kf_dq cX11_keep 40 41 1 (.aload_n 0) := ⟨by decide +kernel, rfl⟩
theorem d_X11_keep_41 : kf_dq cX11_keep 41 44 3 (.getfield 38) := ⟨by decide +kernel, rfl⟩
theorem d_X11_keep_44 : kf_dq cX11_keep 44 47 3 (.invokevirtual 206) := ⟨by decide +kernel, rfl⟩
theorem d_X11_keep_47 : kf_dq cX11_keep 47 48 1 (.aload_n 0) := ⟨by decide +kernel, rfl⟩
theorem d_X11_keep_48 : kf_dq cX11_keep 48 51 3 (.getfield 38) := ⟨by decide +kernel, rfl⟩
theorem d_X11_keep_51 : kf_dq cX11_keep 51 52 1 (.dup) := ⟨by decide +kernel, rfl⟩
theorem d_X11_keep_52 : kf_dq cX11_keep 52 55 3 (.getfield 177) := ⟨by decide +kernel, rfl⟩
theorem d_X11_keep_55 : kf_dq cX11_keep 55 56 1 (.iconst 1) := ⟨by decide +kernel, rfl⟩
theorem d_X11_keep_56 : kf_dq cX11_keep 56 57 1 (.iload_n 1) := ⟨by decide +kernel, rfl⟩
theorem d_X11_keep_57 : kf_dq cX11_keep 57 58 1 (.ishl) := ⟨by decide +kernel, rfl⟩
theorem d_X11_keep_58 : kf_dq cX11_keep 58 59 1 (.ixor) := ⟨by decide +kernel, rfl⟩
theorem d_X11_keep_59 : kf_dq cX11_keep 59 62 3 (.putfield 177) := ⟨by decide +kernel, rfl⟩
theorem d_X11_keep_62 : kf_dq cX11_keep 62 63 1 (.iconst 1) := ⟨by decide +kernel, rfl⟩
theorem d_X11_keep_63 : kf_dq cX11_keep 63 64 1 (.ireturn) := ⟨by decide +kernel, rfl⟩
def f_X11_keep_31 (v0 : Nat) (v1 : Int32) (s0 : Int32) (s1 : Int32) (σ : kf_St) : Option (Int32 × kf_St) :=
  if s0 = s1 then
    some (0, σ)
  else
    (f_X3_remember (kf_rf v0 5) (kf_rf v0 4) σ).bind fun q_2 =>
    kf_lt (kf_wi q_2 (kf_rf v0 4) 2 ((q_2.1 (kf_rf v0 4) 2) ^^^ ((1 : Int32) <<< (v1 &&& 31)))) fun σ_3 =>
    some (1, σ_3)
set_option maxRecDepth 100000 in
set_option maxHeartbeats 4000000 in
theorem b_X11_keep_31 {X : kf_X} {G : kf_G} {q : (Int32 × kf_St)} (E : kf_ok X G cX11_keep RX11 3 (some .boolean) (4)) (hty : kf_wt G) (v0 : Nat) (v1 : Int32) (s0 : Int32) (s1 : Int32) (k_v0 : kf_kd G v0 = 12) (σ : kf_St) (h : f_X11_keep_31 v0 v1 s0 s1 σ = some q) : kf_WA X G 3 (kf_Q X G (some (.int q.1)) q.2) 31 [(0, .ref (kf_ad G v0)), (1, .int v1)] [.int s1, .int s0] σ := by
  unfold f_X11_keep_31 at h
  refine wa_icmp_ne E d_X11_keep_31 (fun c_1 => ?_) (fun c_1 => ?_)
  · replace h := kf_iff c_1 h
    refine wa_aload_n 0 rfl E d_X11_keep_36 ?_
    refine wa_getR fl_X11_45 k_v0 rfl E d_X11_keep_37 ?_
    refine wa_aload_n 0 rfl E d_X11_keep_40 ?_
    refine wa_getR fl_X11_38 k_v0 rfl E d_X11_keep_41 ?_
    obtain ⟨q_2, hq_2, h⟩ := kf_bd h
    refine wa_callV (st2 := []) (c_X3_remember hty (kf_rf v0 5) (kf_rf v0 4) (kf_wtf hty 5 3 k_v0 (by decide) rfl) (kf_wtf hty 4 7 k_v0 (by decide) rfl) σ hq_2) mv_X3_remember ml_X11_206 (kf_wtf hty 5 3 k_v0 (by decide) rfl) rfl (Nat.le_of_ble_eq_true rfl) rfl (Nat.le_of_ble_eq_true rfl) E d_X11_keep_44 rfl ?_
    refine wa_aload_n 0 rfl E d_X11_keep_47 ?_
    refine wa_getR fl_X11_38 k_v0 rfl E d_X11_keep_48 ?_
    refine wa_dup rfl E d_X11_keep_51 ?_
    refine wa_getI fl_X11_177 (kf_wtf hty 4 7 k_v0 (by decide) rfl) rfl E d_X11_keep_52 ?_
    refine wa_iconst 1 ic_1 E d_X11_keep_55 ?_
    refine wa_iload_n 1 rfl E d_X11_keep_56 ?_
    refine wa_ishl E d_X11_keep_57 ?_
    refine wa_ixor E d_X11_keep_58 ?_
    obtain ⟨σ_3, eσ_3, h⟩ := kf_lte h
    refine wa_putI fl_X11_177 fp_7_2 (kf_wtf hty 4 7 k_v0 (by decide) rfl) rfl (by decide) rfl rfl E d_X11_keep_59 eσ_3 ?_
    refine wa_iconst 1 ic_1 E d_X11_keep_62 ?_
    cases h
    exact wa_zret kf_z1 E d_X11_keep_63
  · replace h := kf_ift c_1 h
    refine wa_iconst 0 ic_0 E d_X11_keep_34 ?_
    cases h
    exact wa_zret kf_z0 E d_X11_keep_35
def f_X11_keep (v0 : Nat) (v1 : Int32) (v2 : Int32) (σ : kf_St) : Option (Int32 × kf_St) :=
  (f_X10_hasRound (kf_rf v0 1) v1 σ).bind fun q_1 =>
  if q_1.1 = 0 then
    some (0, q_1.2)
  else
    if v2 = 0 then
      f_X11_keep_31 v0 v1 (((q_1.2.1 (kf_rf v0 4) 2) >>> (v1 &&& 31)) &&& 1) 0 q_1.2
    else
      f_X11_keep_31 v0 v1 (((q_1.2.1 (kf_rf v0 4) 2) >>> (v1 &&& 31)) &&& 1) 1 q_1.2
set_option maxRecDepth 100000 in
set_option maxHeartbeats 4000000 in
theorem c_X11_keep {G : kf_G} (hty : kf_wt G) (v0 : Nat) (v1 : Int32) (v2 : Int32) (k_v0 : kf_kd G v0 = 12) (σ : kf_St) {q : (Int32 × kf_St)} (h : f_X11_keep v0 v1 v2 σ = some q) : kf_Ct (4) yX11_keep cX11_keep 3 (some .boolean) G [.ref (kf_ad G v0), .int v1, .int v2] σ (some (.int q.1)) q.2 := by
  refine kf_Ct.of hty.1 (lv := [(0, .ref (kf_ad G v0)), (1, .int v1), (2, .int v2)]) (by decide +kernel) rfl (Nat.le_of_ble_eq_true rfl) (fun X E => ?_)
  unfold f_X11_keep at h
  refine wa_aload_n 0 rfl E d_X11_keep_0 ?_
  refine wa_getR fl_X11_19 k_v0 rfl E d_X11_keep_1 ?_
  refine wa_iload_n 1 rfl E d_X11_keep_4 ?_
  obtain ⟨q_1, hq_1, h⟩ := kf_bd h
  refine wa_callV (st2 := [.int q_1.1]) (c_X10_hasRound hty (kf_rf v0 1) v1 (kf_wtf hty 1 10 k_v0 (by decide) rfl) σ hq_1) mv_X10_hasRound ml_X11_162 (kf_wtf hty 1 10 k_v0 (by decide) rfl) rfl (Nat.le_of_ble_eq_true rfl) rfl (Nat.le_of_ble_eq_true rfl) E d_X11_keep_5 rfl ?_
  refine wa_if_eq E d_X11_keep_8 (fun c_2 => ?_) (fun c_2 => ?_)
  · replace h := kf_ift c_2 h
    refine wa_iconst 0 ic_0 E d_X11_keep_34 ?_
    cases h
    exact wa_zret kf_z0 E d_X11_keep_35
  · replace h := kf_iff c_2 h
    refine wa_aload_n 0 rfl E d_X11_keep_11 ?_
    refine wa_getR fl_X11_38 k_v0 rfl E d_X11_keep_12 ?_
    refine wa_getI fl_X11_177 (kf_wtf hty 4 7 k_v0 (by decide) rfl) rfl E d_X11_keep_15 ?_
    refine wa_iload_n 1 rfl E d_X11_keep_18 ?_
    refine wa_ishr E d_X11_keep_19 ?_
    refine wa_iconst 1 ic_1 E d_X11_keep_20 ?_
    refine wa_iand E d_X11_keep_21 ?_
    refine wa_iload_n 2 rfl E d_X11_keep_22 ?_
    refine wa_if_eq E d_X11_keep_23 (fun c_3 => ?_) (fun c_3 => ?_)
    · replace h := kf_ift c_3 h
      refine wa_iconst 0 ic_0 E d_X11_keep_30 ?_
      refine wa_sub [0, 1] rfl ?_
      exact b_X11_keep_31 E hty v0 v1 (((q_1.2.1 (kf_rf v0 4) 2) >>> (v1 &&& 31)) &&& 1) 0 k_v0 q_1.2 h
    · replace h := kf_iff c_3 h
      refine wa_iconst 1 ic_1 E d_X11_keep_26 ?_
      refine wa_goto E d_X11_keep_27 ?_
      refine wa_sub [0, 1] rfl ?_
      exact b_X11_keep_31 E hty v0 v1 (((q_1.2.1 (kf_rf v0 4) 2) >>> (v1 &&& 31)) &&& 1) 1 k_v0 q_1.2 h
/-! X11_passOneDay -/
theorem d_X11_passOneDay_0 : kf_dq cX11_passOneDay 0 1 1 (.iconst 0) := ⟨by decide +kernel, rfl⟩
theorem d_X11_passOneDay_1 : kf_dq cX11_passOneDay 1 2 1 (.istore_n 1) := ⟨by decide +kernel, rfl⟩
theorem d_X11_passOneDay_2 : kf_dq cX11_passOneDay 2 3 1 (.iload_n 1) := ⟨by decide +kernel, rfl⟩
theorem d_X11_passOneDay_3 : kf_dq cX11_passOneDay 3 4 1 (.aload_n 0) := ⟨by decide +kernel, rfl⟩
theorem d_X11_passOneDay_4 : kf_dq cX11_passOneDay 4 7 3 (.getfield 19) := ⟨by decide +kernel, rfl⟩
theorem d_X11_passOneDay_7 : kf_dq cX11_passOneDay 7 10 3 (.getfield 292) := ⟨by decide +kernel, rfl⟩
theorem d_X11_passOneDay_10 : kf_dj cX11_passOneDay 10 13 65 (.if_icmp .ge) := ⟨55, by decide +kernel, rfl, by decide⟩
theorem d_X11_passOneDay_13 : kf_dq cX11_passOneDay 13 14 1 (.aload_n 0) := ⟨by decide +kernel, rfl⟩
theorem d_X11_passOneDay_14 : kf_dq cX11_passOneDay 14 17 3 (.getfield 19) := ⟨by decide +kernel, rfl⟩
theorem d_X11_passOneDay_17 : kf_dq cX11_passOneDay 17 18 1 (.iload_n 1) := ⟨by decide +kernel, rfl⟩
theorem d_X11_passOneDay_18 : kf_dq cX11_passOneDay 18 19 1 (.aload_n 0) := ⟨by decide +kernel, rfl⟩
theorem d_X11_passOneDay_19 : kf_dq cX11_passOneDay 19 22 3 (.getfield 38) := ⟨by decide +kernel, rfl⟩
theorem d_X11_passOneDay_22 : kf_dq cX11_passOneDay 22 25 3 (.getfield 180) := ⟨by decide +kernel, rfl⟩
theorem d_X11_passOneDay_25 : kf_dq cX11_passOneDay 25 26 1 (.aload_n 0) := ⟨by decide +kernel, rfl⟩
theorem d_X11_passOneDay_26 : kf_dq cX11_passOneDay 26 29 3 (.getfield 38) := ⟨by decide +kernel, rfl⟩
theorem d_X11_passOneDay_29 : kf_dq cX11_passOneDay 29 32 3 (.getfield 177) := ⟨by decide +kernel, rfl⟩
theorem d_X11_passOneDay_32 : kf_dq cX11_passOneDay 32 35 3 (.invokevirtual 342) := ⟨by decide +kernel, rfl⟩
theorem d_X11_passOneDay_35 : kf_dj cX11_passOneDay 35 38 59 (.ifCond .eq) := ⟨24, by decide +kernel, rfl, by decide⟩
theorem d_X11_passOneDay_38 : kf_dq cX11_passOneDay 38 39 1 (.aload_n 0) := ⟨by decide +kernel, rfl⟩
theorem d_X11_passOneDay_39 : kf_dq cX11_passOneDay 39 42 3 (.getfield 38) := ⟨by decide +kernel, rfl⟩
theorem d_X11_passOneDay_42 : kf_dq cX11_passOneDay 42 45 3 (.getfield 155) := ⟨by decide +kernel, rfl⟩
theorem d_X11_passOneDay_45 : kf_dq cX11_passOneDay 45 46 1 (.aload_n 0) := ⟨by decide +kernel, rfl⟩
theorem d_X11_passOneDay_46 : kf_dq cX11_passOneDay 46 49 3 (.getfield 19) := ⟨by decide +kernel, rfl⟩
theorem d_X11_passOneDay_49 : kf_dq cX11_passOneDay 49 52 3 (.getfield 165) := ⟨by decide +kernel, rfl⟩
theorem d_X11_passOneDay_52 : kf_dq cX11_passOneDay 52 53 1 (.iload_n 1) := ⟨by decide +kernel, rfl⟩
theorem d_X11_passOneDay_53 : kf_dq cX11_passOneDay 53 54 1 (.iaload) := ⟨by decide +kernel, rfl⟩
theorem d_X11_passOneDay_54 : kf_dq cX11_passOneDay 54 55 1 (.dup2) := ⟨by decide +kernel, rfl⟩
theorem d_X11_passOneDay_55 : kf_dq cX11_passOneDay 55 56 1 (.iaload) := ⟨by decide +kernel, rfl⟩
theorem d_X11_passOneDay_56 : kf_dq cX11_passOneDay 56 57 1 (.iconst 1) := ⟨by decide +kernel, rfl⟩
theorem d_X11_passOneDay_57 : kf_dq cX11_passOneDay 57 58 1 (.iadd) := ⟨by decide +kernel, rfl⟩
theorem d_X11_passOneDay_58 : kf_dq cX11_passOneDay 58 59 1 (.iastore) := ⟨by decide +kernel, rfl⟩
theorem d_X11_passOneDay_59 : kf_dq cX11_passOneDay 59 62 3 (.iinc 1 1) := ⟨by decide +kernel, rfl⟩
theorem d_X11_passOneDay_62 : kf_dj cX11_passOneDay 62 65 2 .goto := ⟨(-60), by decide +kernel, rfl, by decide⟩
theorem d_X11_passOneDay_65 : kf_dq cX11_passOneDay 65 66 1 (.iconst 0) := ⟨by decide +kernel, rfl⟩
theorem d_X11_passOneDay_66 : kf_dq cX11_passOneDay 66 67 1 (.istore_n 1) := ⟨by decide +kernel, rfl⟩
theorem d_X11_passOneDay_67 : kf_dq cX11_passOneDay 67 68 1 (.iload_n 1) := ⟨by decide +kernel, rfl⟩
theorem d_X11_passOneDay_68 : kf_dq cX11_passOneDay 68 69 1 (.aload_n 0) := ⟨by decide +kernel, rfl⟩
theorem d_X11_passOneDay_69 : kf_dq cX11_passOneDay 69 72 3 (.getfield 19) := ⟨by decide +kernel, rfl⟩
theorem d_X11_passOneDay_72 : kf_dq cX11_passOneDay 72 75 3 (.getfield 256) := ⟨by decide +kernel, rfl⟩
theorem d_X11_passOneDay_75 : kf_dj cX11_passOneDay 75 78 122 (.if_icmp .ge) := ⟨47, by decide +kernel, rfl, by decide⟩
theorem d_X11_passOneDay_78 : kf_dq cX11_passOneDay 78 79 1 (.aload_n 0) := ⟨by decide +kernel, rfl⟩
theorem d_X11_passOneDay_79 : kf_dq cX11_passOneDay 79 82 3 (.getfield 54) := ⟨by decide +kernel, rfl⟩
theorem d_X11_passOneDay_82 : kf_dq cX11_passOneDay 82 83 1 (.aload_n 0) := ⟨by decide +kernel, rfl⟩
theorem d_X11_passOneDay_83 : kf_dq cX11_passOneDay 83 86 3 (.getfield 38) := ⟨by decide +kernel, rfl⟩
theorem d_X11_passOneDay_86 : kf_dq cX11_passOneDay 86 89 3 (.getfield 119) := ⟨by decide +kernel, rfl⟩
theorem d_X11_passOneDay_89 : kf_dq cX11_passOneDay 89 90 1 (.iload_n 1) := ⟨by decide +kernel, rfl⟩
theorem d_X11_passOneDay_90 : kf_dq cX11_passOneDay 90 91 1 (.aaload) := ⟨by decide +kernel, rfl⟩
theorem d_X11_passOneDay_91 : kf_dq cX11_passOneDay 91 92 1 (.iload_n 1) := ⟨by decide +kernel, rfl⟩
theorem d_X11_passOneDay_92 : kf_dq cX11_passOneDay 92 93 1 (.aload_n 0) := ⟨by decide +kernel, rfl⟩
theorem d_X11_passOneDay_93 : kf_dq cX11_passOneDay 93 96 3 (.getfield 38) := ⟨by decide +kernel, rfl⟩
theorem d_X11_passOneDay_96 : kf_dq cX11_passOneDay 96 99 3 (.getfield 180) := ⟨by decide +kernel, rfl⟩
theorem d_X11_passOneDay_99 : kf_dq cX11_passOneDay 99 100 1 (.aload_n 0) := ⟨by decide +kernel, rfl⟩
theorem d_X11_passOneDay_100 : kf_dq cX11_passOneDay 100 103 3 (.getfield 38) := ⟨by decide +kernel, rfl⟩
theorem d_X11_passOneDay_103 : kf_dq cX11_passOneDay 103 106 3 (.getfield 177) := ⟨by decide +kernel, rfl⟩
theorem d_X11_passOneDay_106 : kf_dq cX11_passOneDay 106 107 1 (.aload_n 0) := ⟨by decide +kernel, rfl⟩
theorem d_X11_passOneDay_107 : kf_dq cX11_passOneDay 107 110 3 (.getfield 19) := ⟨by decide +kernel, rfl⟩
theorem d_X11_passOneDay_110 : kf_dq cX11_passOneDay 110 113 3 (.getfield 298) := ⟨by decide +kernel, rfl⟩
theorem d_X11_passOneDay_113 : kf_dq cX11_passOneDay 113 116 3 (.invokevirtual 346) := ⟨by decide +kernel, rfl⟩
theorem d_X11_passOneDay_116 : kf_dq cX11_passOneDay 116 119 3 (.iinc 1 1) := ⟨by decide +kernel, rfl⟩
theorem d_X11_passOneDay_119 : kf_dj cX11_passOneDay 119 122 67 .goto := ⟨(-52), by decide +kernel, rfl, by decide⟩
theorem d_X11_passOneDay_122 : kf_dq cX11_passOneDay 122 123 1 (.aload_n 0) := ⟨by decide +kernel, rfl⟩
theorem d_X11_passOneDay_123 : kf_dq cX11_passOneDay 123 126 3 (.getfield 38) := ⟨by decide +kernel, rfl⟩
theorem d_X11_passOneDay_126 : kf_dq cX11_passOneDay 126 127 1 (.dup) := ⟨by decide +kernel, rfl⟩
theorem d_X11_passOneDay_127 : kf_dq cX11_passOneDay 127 130 3 (.getfield 180) := ⟨by decide +kernel, rfl⟩
theorem d_X11_passOneDay_130 : kf_dq cX11_passOneDay 130 131 1 (.iconst 1) := ⟨by decide +kernel, rfl⟩
theorem d_X11_passOneDay_131 : kf_dq cX11_passOneDay 131 132 1 (.iadd) := ⟨by decide +kernel, rfl⟩
theorem d_X11_passOneDay_132 : kf_dq cX11_passOneDay 132 135 3 (.putfield 180) := ⟨by decide +kernel, rfl⟩
theorem d_X11_passOneDay_135 : kf_dq cX11_passOneDay 135 136 1 (.return_) := ⟨by decide +kernel, rfl⟩
def f_X11_passOneDay_67_s (rec67 : Nat → Int32 → kf_St → Option kf_St) (v0 : Nat) (v1 : Int32) (σ : kf_St) : Option kf_St :=
  if (σ.1 (kf_rf v0 1) 0) ≤ v1 then
    kf_lt (kf_wi σ (kf_rf v0 4) 3 ((σ.1 (kf_rf v0 4) 3) + 1)) fun σ_2 =>
    some σ_2
  else
    if kf_ix v1 (kf_ln (kf_rf (kf_rf v0 4) 0)) = true then
    (f_X4_passDay (kf_rf v0 6) (kf_rf (kf_rf (kf_rf v0 4) 0) (Int32.toNatClampNeg v1)) v1 (σ.1 (kf_rf v0 4) 3) (σ.1 (kf_rf v0 4) 2) (σ.1 (kf_rf v0 1) 5) σ).bind fun q_4 =>
    kf_lt (v1 + 1) fun v1_5 =>
    rec67 v0 v1_5 q_4
    else none
def f_X11_passOneDay_67 : Nat → Nat → Int32 → kf_St → Option kf_St
  | 0, _, _, _ => none
  | n + 1, v0, v1, σ => f_X11_passOneDay_67_s (f_X11_passOneDay_67 n) v0 v1 σ
set_option maxRecDepth 100000 in
set_option maxHeartbeats 4000000 in
theorem b_X11_passOneDay_67_s {X : kf_X} {G : kf_G} (rec67 : Nat → Int32 → kf_St → Option kf_St) {q : kf_St} (E : kf_ok X G cX11_passOneDay RX11 2 none (7)) (hty : kf_wt G) (hrec67 : ∀ (v0 : Nat) (v1 : Int32) (k_v0 : kf_kd G v0 = 12) (σ : kf_St), rec67 v0 v1 σ = some q → kf_WA X G 2 (kf_Q X G none q) 67 [(0, .ref (kf_ad G v0)), (1, .int v1)] [] σ) (v0 : Nat) (v1 : Int32) (k_v0 : kf_kd G v0 = 12) (σ : kf_St) (h : f_X11_passOneDay_67_s rec67 v0 v1 σ = some q) : kf_WA X G 2 (kf_Q X G none q) 67 [(0, .ref (kf_ad G v0)), (1, .int v1)] [] σ := by
  unfold f_X11_passOneDay_67_s at h
  refine wa_iload_n 1 rfl E d_X11_passOneDay_67 ?_
  refine wa_aload_n 0 rfl E d_X11_passOneDay_68 ?_
  refine wa_getR fl_X11_19 k_v0 rfl E d_X11_passOneDay_69 ?_
  refine wa_getI fl_X11_256 (kf_wtf hty 1 10 k_v0 (by decide) rfl) rfl E d_X11_passOneDay_72 ?_
  refine wa_icmp_ge E d_X11_passOneDay_75 (fun c_1 => ?_) (fun c_1 => ?_)
  · replace h := kf_ift c_1 h
    refine wa_aload_n 0 rfl E d_X11_passOneDay_122 ?_
    refine wa_getR fl_X11_38 k_v0 rfl E d_X11_passOneDay_123 ?_
    refine wa_dup rfl E d_X11_passOneDay_126 ?_
    refine wa_getI fl_X11_180 (kf_wtf hty 4 7 k_v0 (by decide) rfl) rfl E d_X11_passOneDay_127 ?_
    refine wa_iconst 1 ic_1 E d_X11_passOneDay_130 ?_
    refine wa_iadd E d_X11_passOneDay_131 ?_
    obtain ⟨σ_2, eσ_2, h⟩ := kf_lte h
    refine wa_putI fl_X11_180 fp_7_3 (kf_wtf hty 4 7 k_v0 (by decide) rfl) rfl (by decide) rfl rfl E d_X11_passOneDay_132 eσ_2 ?_
    cases h
    exact wa_vret E d_X11_passOneDay_135
  · replace h := kf_iff c_1 h
    refine wa_aload_n 0 rfl E d_X11_passOneDay_78 ?_
    refine wa_getR fl_X11_54 k_v0 rfl E d_X11_passOneDay_79 ?_
    refine wa_aload_n 0 rfl E d_X11_passOneDay_82 ?_
    refine wa_getR fl_X11_38 k_v0 rfl E d_X11_passOneDay_83 ?_
    refine wa_getR fl_X11_119 (kf_wtf hty 4 7 k_v0 (by decide) rfl) rfl E d_X11_passOneDay_86 ?_
    refine wa_iload_n 1 rfl E d_X11_passOneDay_89 ?_
    obtain ⟨g_3, h⟩ := kf_gd h
    refine wa_aald (kf_wtf hty 0 53 (kf_wtf hty 4 7 k_v0 (by decide) rfl) (by decide) rfl) g_3 E d_X11_passOneDay_90 ?_
    refine wa_iload_n 1 rfl E d_X11_passOneDay_91 ?_
    refine wa_aload_n 0 rfl E d_X11_passOneDay_92 ?_
    refine wa_getR fl_X11_38 k_v0 rfl E d_X11_passOneDay_93 ?_
    refine wa_getI fl_X11_180 (kf_wtf hty 4 7 k_v0 (by decide) rfl) rfl E d_X11_passOneDay_96 ?_
    refine wa_aload_n 0 rfl E d_X11_passOneDay_99 ?_
    refine wa_getR fl_X11_38 k_v0 rfl E d_X11_passOneDay_100 ?_
    refine wa_getI fl_X11_177 (kf_wtf hty 4 7 k_v0 (by decide) rfl) rfl E d_X11_passOneDay_103 ?_
    refine wa_aload_n 0 rfl E d_X11_passOneDay_106 ?_
    refine wa_getR fl_X11_19 k_v0 rfl E d_X11_passOneDay_107 ?_
    refine wa_getI fl_X11_298 (kf_wtf hty 1 10 k_v0 (by decide) rfl) rfl E d_X11_passOneDay_110 ?_
    obtain ⟨q_4, hq_4, h⟩ := kf_bd h
    refine wa_callV (st2 := []) (c_X4_passDay hty (kf_rf v0 6) (kf_rf (kf_rf (kf_rf v0 4) 0) (Int32.toNatClampNeg v1)) v1 (σ.1 (kf_rf v0 4) 3) (σ.1 (kf_rf v0 4) 2) (σ.1 (kf_rf v0 1) 5) (kf_wtf hty 6 4 k_v0 (by decide) rfl) (kf_wta hty (kf_wtf hty 0 53 (kf_wtf hty 4 7 k_v0 (by decide) rfl) (by decide) rfl) g_3) σ hq_4) mv_X4_passDay ml_X11_346 (kf_wtf hty 6 4 k_v0 (by decide) rfl) rfl (Nat.le_of_ble_eq_true rfl) rfl (Nat.le_of_ble_eq_true rfl) E d_X11_passOneDay_113 rfl ?_
    obtain ⟨v1_5, ev1_5, h⟩ := kf_lte h
    refine wa_iinc (lv' := [(1, .int v1_5), (0, .ref (kf_ad G v0))]) v1_5 1 rfl (kf_inc ic_1 ev1_5) (by decide) rfl E d_X11_passOneDay_116 ?_
    refine wa_goto E d_X11_passOneDay_119 ?_
    refine wa_sub [1, 0] rfl ?_
    exact hrec67 v0 v1_5 k_v0 q_4 h
theorem b_X11_passOneDay_67 {X : kf_X} {G : kf_G} {q : kf_St} (E : kf_ok X G cX11_passOneDay RX11 2 none (7)) (hty : kf_wt G) : ∀ (N : Nat) (v0 : Nat) (v1 : Int32) (k_v0 : kf_kd G v0 = 12) (σ : kf_St) (_ : f_X11_passOneDay_67 N v0 v1 σ = some q), kf_WA X G 2 (kf_Q X G none q) 67 [(0, .ref (kf_ad G v0)), (1, .int v1)] [] σ
  | 0, _, _, _, _, h => by cases h
  | N + 1, v0, v1, k_v0, σ, h => b_X11_passOneDay_67_s _ E hty (b_X11_passOneDay_67 E hty N) v0 v1 k_v0 σ h
def f_X11_passOneDay_59 (rec2 : Nat → Int32 → kf_St → Option kf_St) (v0 : Nat) (v1 : Int32) (σ : kf_St) : Option kf_St :=
  kf_lt (v1 + 1) fun v1_1 =>
  rec2 v0 v1_1 σ
set_option maxRecDepth 100000 in
set_option maxHeartbeats 4000000 in
theorem b_X11_passOneDay_59 {X : kf_X} {G : kf_G} {rec2 : Nat → Int32 → kf_St → Option kf_St} {q : kf_St} (E : kf_ok X G cX11_passOneDay RX11 2 none (7)) (hty : kf_wt G) (hrec2 : ∀ (v0 : Nat) (v1 : Int32) (k_v0 : kf_kd G v0 = 12) (σ : kf_St), rec2 v0 v1 σ = some q → kf_WA X G 2 (kf_Q X G none q) 2 [(0, .ref (kf_ad G v0)), (1, .int v1)] [] σ) (v0 : Nat) (v1 : Int32) (k_v0 : kf_kd G v0 = 12) (σ : kf_St) (h : f_X11_passOneDay_59 rec2 v0 v1 σ = some q) : kf_WA X G 2 (kf_Q X G none q) 59 [(0, .ref (kf_ad G v0)), (1, .int v1)] [] σ := by
  unfold f_X11_passOneDay_59 at h
  obtain ⟨v1_1, ev1_1, h⟩ := kf_lte h
  refine wa_iinc (lv' := [(1, .int v1_1), (0, .ref (kf_ad G v0))]) v1_1 1 rfl (kf_inc ic_1 ev1_1) (by decide) rfl E d_X11_passOneDay_59 ?_
  refine wa_goto E d_X11_passOneDay_62 ?_
  refine wa_sub [1, 0] rfl ?_
  exact hrec2 v0 v1_1 k_v0 σ h
def f_X11_passOneDay_2_s (rec2 : Nat → Int32 → kf_St → Option kf_St) (v0 : Nat) (v1 : Int32) (σ : kf_St) : Option kf_St :=
  if (σ.1 (kf_rf v0 1) 2) ≤ v1 then
    f_X11_passOneDay_67 kf_F v0 0 σ
  else
    (f_X10_comes (kf_rf v0 1) v1 (σ.1 (kf_rf v0 4) 3) (σ.1 (kf_rf v0 4) 2) σ).bind fun q_2 =>
    if q_2.1 = 0 then
      f_X11_passOneDay_59 rec2 v0 v1 q_2.2
    else
      if kf_ix v1 (kf_ln (kf_rf (kf_rf v0 1) 10)) = true then
      if kf_ix (q_2.2.1 (kf_rf (kf_rf v0 1) 10) (Int32.toNatClampNeg v1)) (kf_ln (kf_rf (kf_rf v0 4) 1)) = true then
      if kf_ix (q_2.2.1 (kf_rf (kf_rf v0 1) 10) (Int32.toNatClampNeg v1)) (kf_ln (kf_rf (kf_rf v0 4) 1)) = true then
      kf_lt (kf_wi q_2.2 (kf_rf (kf_rf v0 4) 1) (Int32.toNatClampNeg (q_2.2.1 (kf_rf (kf_rf v0 1) 10) (Int32.toNatClampNeg v1))) ((q_2.2.1 (kf_rf (kf_rf v0 4) 1) (Int32.toNatClampNeg (q_2.2.1 (kf_rf (kf_rf v0 1) 10) (Int32.toNatClampNeg v1)))) + 1)) fun σ_7 =>
      f_X11_passOneDay_59 rec2 v0 v1 σ_7
      else none
      else none
      else none
def f_X11_passOneDay_2 : Nat → Nat → Int32 → kf_St → Option kf_St
  | 0, _, _, _ => none
  | n + 1, v0, v1, σ => f_X11_passOneDay_2_s (f_X11_passOneDay_2 n) v0 v1 σ
set_option maxRecDepth 100000 in
set_option maxHeartbeats 4000000 in
theorem b_X11_passOneDay_2_s {X : kf_X} {G : kf_G} (rec2 : Nat → Int32 → kf_St → Option kf_St) {q : kf_St} (E : kf_ok X G cX11_passOneDay RX11 2 none (7)) (hty : kf_wt G) (hrec2 : ∀ (v0 : Nat) (v1 : Int32) (k_v0 : kf_kd G v0 = 12) (σ : kf_St), rec2 v0 v1 σ = some q → kf_WA X G 2 (kf_Q X G none q) 2 [(0, .ref (kf_ad G v0)), (1, .int v1)] [] σ) (v0 : Nat) (v1 : Int32) (k_v0 : kf_kd G v0 = 12) (σ : kf_St) (h : f_X11_passOneDay_2_s rec2 v0 v1 σ = some q) : kf_WA X G 2 (kf_Q X G none q) 2 [(0, .ref (kf_ad G v0)), (1, .int v1)] [] σ := by
  unfold f_X11_passOneDay_2_s at h
  refine wa_iload_n 1 rfl E d_X11_passOneDay_2 ?_
  refine wa_aload_n 0 rfl E d_X11_passOneDay_3 ?_
  refine wa_getR fl_X11_19 k_v0 rfl E d_X11_passOneDay_4 ?_
  refine wa_getI fl_X11_292 (kf_wtf hty 1 10 k_v0 (by decide) rfl) rfl E d_X11_passOneDay_7 ?_
  refine wa_icmp_ge E d_X11_passOneDay_10 (fun c_1 => ?_) (fun c_1 => ?_)
  · replace h := kf_ift c_1 h
    refine wa_iconst 0 ic_0 E d_X11_passOneDay_65 ?_
    refine wa_istore_n (lv' := [(1, .int 0), (0, .ref (kf_ad G v0))]) rfl (by decide) rfl E d_X11_passOneDay_66 ?_
    refine wa_sub [1, 0] rfl ?_
    exact b_X11_passOneDay_67 E hty kf_F v0 0 k_v0 σ h
  · replace h := kf_iff c_1 h
    refine wa_aload_n 0 rfl E d_X11_passOneDay_13 ?_
    refine wa_getR fl_X11_19 k_v0 rfl E d_X11_passOneDay_14 ?_
    refine wa_iload_n 1 rfl E d_X11_passOneDay_17 ?_
    refine wa_aload_n 0 rfl E d_X11_passOneDay_18 ?_
    refine wa_getR fl_X11_38 k_v0 rfl E d_X11_passOneDay_19 ?_
    refine wa_getI fl_X11_180 (kf_wtf hty 4 7 k_v0 (by decide) rfl) rfl E d_X11_passOneDay_22 ?_
    refine wa_aload_n 0 rfl E d_X11_passOneDay_25 ?_
    refine wa_getR fl_X11_38 k_v0 rfl E d_X11_passOneDay_26 ?_
    refine wa_getI fl_X11_177 (kf_wtf hty 4 7 k_v0 (by decide) rfl) rfl E d_X11_passOneDay_29 ?_
    obtain ⟨q_2, hq_2, h⟩ := kf_bd h
    refine wa_callV (st2 := [.int q_2.1]) (c_X10_comes hty (kf_rf v0 1) v1 (σ.1 (kf_rf v0 4) 3) (σ.1 (kf_rf v0 4) 2) (kf_wtf hty 1 10 k_v0 (by decide) rfl) σ hq_2) mv_X10_comes ml_X11_342 (kf_wtf hty 1 10 k_v0 (by decide) rfl) rfl (Nat.le_of_ble_eq_true rfl) rfl (Nat.le_of_ble_eq_true rfl) E d_X11_passOneDay_32 rfl ?_
    refine wa_if_eq E d_X11_passOneDay_35 (fun c_3 => ?_) (fun c_3 => ?_)
    · replace h := kf_ift c_3 h
      exact b_X11_passOneDay_59 E hty hrec2 v0 v1 k_v0 q_2.2 h
    · replace h := kf_iff c_3 h
      refine wa_aload_n 0 rfl E d_X11_passOneDay_38 ?_
      refine wa_getR fl_X11_38 k_v0 rfl E d_X11_passOneDay_39 ?_
      refine wa_getR fl_X11_155 (kf_wtf hty 4 7 k_v0 (by decide) rfl) rfl E d_X11_passOneDay_42 ?_
      refine wa_aload_n 0 rfl E d_X11_passOneDay_45 ?_
      refine wa_getR fl_X11_19 k_v0 rfl E d_X11_passOneDay_46 ?_
      refine wa_getR fl_X11_165 (kf_wtf hty 1 10 k_v0 (by decide) rfl) rfl E d_X11_passOneDay_49 ?_
      refine wa_iload_n 1 rfl E d_X11_passOneDay_52 ?_
      obtain ⟨g_4, h⟩ := kf_gd h
      refine wa_iald (kf_wtf hty 10 49 (kf_wtf hty 1 10 k_v0 (by decide) rfl) (by decide) rfl) g_4 E d_X11_passOneDay_53 ?_
      refine wa_dup2 rfl rfl E d_X11_passOneDay_54 ?_
      obtain ⟨g_5, h⟩ := kf_gd h
      refine wa_iald (kf_wtf hty 1 49 (kf_wtf hty 4 7 k_v0 (by decide) rfl) (by decide) rfl) g_5 E d_X11_passOneDay_55 ?_
      refine wa_iconst 1 ic_1 E d_X11_passOneDay_56 ?_
      refine wa_iadd E d_X11_passOneDay_57 ?_
      obtain ⟨g_6, h⟩ := kf_gd h
      obtain ⟨σ_7, eσ_7, h⟩ := kf_lte h
      refine wa_iast (kf_wtf hty 1 49 (kf_wtf hty 4 7 k_v0 (by decide) rfl) (by decide) rfl) g_6 E d_X11_passOneDay_58 eσ_7 ?_
      exact b_X11_passOneDay_59 E hty hrec2 v0 v1 k_v0 σ_7 h
theorem b_X11_passOneDay_2 {X : kf_X} {G : kf_G} {q : kf_St} (E : kf_ok X G cX11_passOneDay RX11 2 none (7)) (hty : kf_wt G) : ∀ (N : Nat) (v0 : Nat) (v1 : Int32) (k_v0 : kf_kd G v0 = 12) (σ : kf_St) (_ : f_X11_passOneDay_2 N v0 v1 σ = some q), kf_WA X G 2 (kf_Q X G none q) 2 [(0, .ref (kf_ad G v0)), (1, .int v1)] [] σ
  | 0, _, _, _, _, h => by cases h
  | N + 1, v0, v1, k_v0, σ, h => b_X11_passOneDay_2_s _ E hty (b_X11_passOneDay_2 E hty N) v0 v1 k_v0 σ h
def f_X11_passOneDay (v0 : Nat) (σ : kf_St) : Option kf_St :=
  f_X11_passOneDay_2 kf_F v0 0 σ
set_option maxRecDepth 100000 in
set_option maxHeartbeats 4000000 in
theorem c_X11_passOneDay {G : kf_G} (hty : kf_wt G) (v0 : Nat) (k_v0 : kf_kd G v0 = 12) (σ : kf_St) {q : kf_St} (h : f_X11_passOneDay v0 σ = some q) : kf_Ct (7) yX11_passOneDay cX11_passOneDay 2 none G [.ref (kf_ad G v0)] σ none q := by
  refine kf_Ct.of hty.1 (lv := [(0, .ref (kf_ad G v0))]) (by decide +kernel) rfl (Nat.le_of_ble_eq_true rfl) (fun X E => ?_)
  unfold f_X11_passOneDay at h
  refine wa_iconst 0 ic_0 E d_X11_passOneDay_0 ?_
  refine wa_istore_n (lv' := [(1, .int 0), (0, .ref (kf_ad G v0))]) rfl (by decide) rfl E d_X11_passOneDay_1 ?_
  refine wa_sub [1, 0] rfl ?_
  exact b_X11_passOneDay_2 E hty kf_F v0 0 k_v0 σ h
/-! X11_days -/
theorem d_X11_days_0 : kf_dq cX11_days 0 1 1 (.iload_n 1) := ⟨by decide +kernel, rfl⟩
theorem d_X11_days_1 : kf_dj cX11_days 1 4 10 (.ifCond .lt) := ⟨9, by decide +kernel, rfl, by decide⟩
theorem d_X11_days_4 : kf_dq cX11_days 4 5 1 (.iload_n 1) := ⟨by decide +kernel, rfl⟩
theorem d_X11_days_5 : kf_dq cX11_days 5 7 2 (.bipush 60) := ⟨by decide +kernel, rfl⟩
theorem d_X11_days_7 : kf_dj cX11_days 7 10 12 (.if_icmp .le) := ⟨5, by decide +kernel, rfl, by decide⟩
theorem d_X11_days_10 : kf_dq cX11_days 10 11 1 (.iconst (-1)) := ⟨by decide +kernel, rfl⟩
theorem d_X11_days_11 : kf_dq cX11_days 11 12 1 (.ireturn) := ⟨by decide +kernel, rfl⟩
theorem d_X11_days_12 : kf_dq cX11_days 12 13 1 (.iload_n 1) := ⟨by decide +kernel, rfl⟩
theorem d_X11_days_13 : kf_dj cX11_days 13 16 27 (.ifCond .le) := ⟨14, by decide +kernel, rfl, by decide⟩
theorem d_X11_days_16 : kf_dq cX11_days 16 17 1 (.aload_n 0) := ⟨by decide +kernel, rfl⟩
theorem d_X11_days_17 : kf_dq cX11_days 17 20 3 (.getfield 45) := ⟨by decide +kernel, rfl⟩
theorem d_X11_days_20 : kf_dq cX11_days 20 21 1 (.aload_n 0) := ⟨by decide +kernel, rfl⟩
theorem d_X11_days_21 : kf_dq cX11_days 21 24 3 (.getfield 38) := ⟨by decide +kernel, rfl⟩
theorem d_X11_days_24 : kf_dq cX11_days 24 27 3 (.invokevirtual 206) := ⟨by decide +kernel, rfl⟩
theorem d_X11_days_27 : kf_dq cX11_days 27 28 1 (.iconst 0) := ⟨by decide +kernel, rfl⟩
theorem d_X11_days_28 : kf_dq cX11_days 28 29 1 (.istore_n 2) := ⟨by decide +kernel, rfl⟩
theorem d_X11_days_29 : kf_dq cX11_days 29 30 1 (.iload_n 2) := ⟨by decide +kernel, rfl⟩
theorem d_X11_days_30 : kf_dq cX11_days 30 31 1 (.iload_n 1) := ⟨by decide +kernel, rfl⟩
theorem d_X11_days_31 : kf_dj cX11_days 31 34 44 (.if_icmp .ge) := ⟨13, by decide +kernel, rfl, by decide⟩
theorem d_X11_days_34 : kf_dq cX11_days 34 35 1 (.aload_n 0) := ⟨by decide +kernel, rfl⟩
theorem d_X11_days_35 : kf_dq cX11_days 35 38 3 (.invokevirtual 221) := ⟨by decide +kernel, rfl⟩
theorem d_X11_days_38 : kf_dq cX11_days 38 41 3 (.iinc 2 1) := ⟨by decide +kernel, rfl⟩
theorem d_X11_days_41 : kf_dj cX11_days 41 44 29 .goto := ⟨(-12), by decide +kernel, rfl, by decide⟩
theorem d_X11_days_44 : kf_dq cX11_days 44 45 1 (.aload_n 0) := ⟨by decide +kernel, rfl⟩
theorem d_X11_days_45 : kf_dq cX11_days 45 48 3 (.getfield 38) := ⟨by decide +kernel, rfl⟩
theorem d_X11_days_48 : kf_dq cX11_days 48 51 3 (.getfield 180) := ⟨by decide +kernel, rfl⟩
theorem d_X11_days_51 : kf_dq cX11_days 51 52 1 (.ireturn) := ⟨by decide +kernel, rfl⟩
def f_X11_days_29_s (rec29 : Nat → Int32 → Int32 → kf_St → Option (Int32 × kf_St)) (v0 : Nat) (v1 : Int32) (v2 : Int32) (σ : kf_St) : Option (Int32 × kf_St) :=
  if v1 ≤ v2 then
    some ((σ.1 (kf_rf v0 4) 3), σ)
  else
    (f_X11_passOneDay v0 σ).bind fun q_2 =>
    kf_lt (v2 + 1) fun v2_3 =>
    rec29 v0 v1 v2_3 q_2
def f_X11_days_29 : Nat → Nat → Int32 → Int32 → kf_St → Option (Int32 × kf_St)
  | 0, _, _, _, _ => none
  | n + 1, v0, v1, v2, σ => f_X11_days_29_s (f_X11_days_29 n) v0 v1 v2 σ
set_option maxRecDepth 100000 in
set_option maxHeartbeats 4000000 in
theorem b_X11_days_29_s {X : kf_X} {G : kf_G} (rec29 : Nat → Int32 → Int32 → kf_St → Option (Int32 × kf_St)) {q : (Int32 × kf_St)} (E : kf_ok X G cX11_days RX11 3 (some .int) (8)) (hty : kf_wt G) (hrec29 : ∀ (v0 : Nat) (v1 : Int32) (v2 : Int32) (k_v0 : kf_kd G v0 = 12) (σ : kf_St), rec29 v0 v1 v2 σ = some q → kf_WA X G 3 (kf_Q X G (some (.int q.1)) q.2) 29 [(0, .ref (kf_ad G v0)), (1, .int v1), (2, .int v2)] [] σ) (v0 : Nat) (v1 : Int32) (v2 : Int32) (k_v0 : kf_kd G v0 = 12) (σ : kf_St) (h : f_X11_days_29_s rec29 v0 v1 v2 σ = some q) : kf_WA X G 3 (kf_Q X G (some (.int q.1)) q.2) 29 [(0, .ref (kf_ad G v0)), (1, .int v1), (2, .int v2)] [] σ := by
  unfold f_X11_days_29_s at h
  refine wa_iload_n 2 rfl E d_X11_days_29 ?_
  refine wa_iload_n 1 rfl E d_X11_days_30 ?_
  refine wa_icmp_ge E d_X11_days_31 (fun c_1 => ?_) (fun c_1 => ?_)
  · replace h := kf_ift c_1 h
    refine wa_aload_n 0 rfl E d_X11_days_44 ?_
    refine wa_getR fl_X11_38 k_v0 rfl E d_X11_days_45 ?_
    refine wa_getI fl_X11_180 (kf_wtf hty 4 7 k_v0 (by decide) rfl) rfl E d_X11_days_48 ?_
    cases h
    exact wa_iret E d_X11_days_51
  · replace h := kf_iff c_1 h
    refine wa_aload_n 0 rfl E d_X11_days_34 ?_
    obtain ⟨q_2, hq_2, h⟩ := kf_bd h
    refine wa_callV (st2 := []) (c_X11_passOneDay hty v0 k_v0 σ hq_2) mv_X11_passOneDay ml_X11_221 k_v0 rfl (Nat.le_of_ble_eq_true rfl) rfl (Nat.le_of_ble_eq_true rfl) E d_X11_days_35 rfl ?_
    obtain ⟨v2_3, ev2_3, h⟩ := kf_lte h
    refine wa_iinc (lv' := [(2, .int v2_3), (0, .ref (kf_ad G v0)), (1, .int v1)]) v2_3 2 rfl (kf_inc ic_1 ev2_3) (by decide) rfl E d_X11_days_38 ?_
    refine wa_goto E d_X11_days_41 ?_
    refine wa_sub [1, 2, 0] rfl ?_
    exact hrec29 v0 v1 v2_3 k_v0 q_2 h
theorem b_X11_days_29 {X : kf_X} {G : kf_G} {q : (Int32 × kf_St)} (E : kf_ok X G cX11_days RX11 3 (some .int) (8)) (hty : kf_wt G) : ∀ (N : Nat) (v0 : Nat) (v1 : Int32) (v2 : Int32) (k_v0 : kf_kd G v0 = 12) (σ : kf_St) (_ : f_X11_days_29 N v0 v1 v2 σ = some q), kf_WA X G 3 (kf_Q X G (some (.int q.1)) q.2) 29 [(0, .ref (kf_ad G v0)), (1, .int v1), (2, .int v2)] [] σ
  | 0, _, _, _, _, _, h => by cases h
  | N + 1, v0, v1, v2, k_v0, σ, h => b_X11_days_29_s _ E hty (b_X11_days_29 E hty N) v0 v1 v2 k_v0 σ h
def f_X11_days_27 (v0 : Nat) (v1 : Int32) (σ : kf_St) : Option (Int32 × kf_St) :=
  f_X11_days_29 kf_F v0 v1 0 σ
set_option maxRecDepth 100000 in
set_option maxHeartbeats 4000000 in
theorem b_X11_days_27 {X : kf_X} {G : kf_G} {q : (Int32 × kf_St)} (E : kf_ok X G cX11_days RX11 3 (some .int) (8)) (hty : kf_wt G) (v0 : Nat) (v1 : Int32) (k_v0 : kf_kd G v0 = 12) (σ : kf_St) (h : f_X11_days_27 v0 v1 σ = some q) : kf_WA X G 3 (kf_Q X G (some (.int q.1)) q.2) 27 [(0, .ref (kf_ad G v0)), (1, .int v1)] [] σ := by
  unfold f_X11_days_27 at h
  refine wa_iconst 0 ic_0 E d_X11_days_27 ?_
  refine wa_istore_n (lv' := [(2, .int 0), (0, .ref (kf_ad G v0)), (1, .int v1)]) rfl (by decide) rfl E d_X11_days_28 ?_
  refine wa_sub [1, 2, 0] rfl ?_
  exact b_X11_days_29 E hty kf_F v0 v1 0 k_v0 σ h
def f_X11_days (v0 : Nat) (v1 : Int32) (σ : kf_St) : Option (Int32 × kf_St) :=
  if v1 < 0 then
    some ((-1), σ)
  else
    if v1 ≤ 60 then
      if v1 ≤ 0 then
        f_X11_days_27 v0 v1 σ
      else
        (f_X3_remember (kf_rf v0 5) (kf_rf v0 4) σ).bind fun q_4 =>
        f_X11_days_27 v0 v1 q_4
    else
      some ((-1), σ)
set_option maxRecDepth 100000 in
set_option maxHeartbeats 4000000 in
theorem c_X11_days {G : kf_G} (hty : kf_wt G) (v0 : Nat) (v1 : Int32) (k_v0 : kf_kd G v0 = 12) (σ : kf_St) {q : (Int32 × kf_St)} (h : f_X11_days v0 v1 σ = some q) : kf_Ct (8) yX11_days cX11_days 3 (some .int) G [.ref (kf_ad G v0), .int v1] σ (some (.int q.1)) q.2 := by
  refine kf_Ct.of hty.1 (lv := [(0, .ref (kf_ad G v0)), (1, .int v1)]) (by decide +kernel) rfl (Nat.le_of_ble_eq_true rfl) (fun X E => ?_)
  unfold f_X11_days at h
  refine wa_iload_n 1 rfl E d_X11_days_0 ?_
  refine wa_if_lt E d_X11_days_1 (fun c_1 => ?_) (fun c_1 => ?_)
  · replace h := kf_ift c_1 h
    refine wa_iconst (-1) ic_m1 E d_X11_days_10 ?_
    cases h
    exact wa_iret E d_X11_days_11
  · replace h := kf_iff c_1 h
    refine wa_iload_n 1 rfl E d_X11_days_4 ?_
    refine wa_bipush 60 bp_60 E d_X11_days_5 ?_
    refine wa_icmp_le E d_X11_days_7 (fun c_2 => ?_) (fun c_2 => ?_)
    · replace h := kf_ift c_2 h
      refine wa_iload_n 1 rfl E d_X11_days_12 ?_
      refine wa_if_le E d_X11_days_13 (fun c_3 => ?_) (fun c_3 => ?_)
      · replace h := kf_ift c_3 h
        exact b_X11_days_27 E hty v0 v1 k_v0 σ h
      · replace h := kf_iff c_3 h
        refine wa_aload_n 0 rfl E d_X11_days_16 ?_
        refine wa_getR fl_X11_45 k_v0 rfl E d_X11_days_17 ?_
        refine wa_aload_n 0 rfl E d_X11_days_20 ?_
        refine wa_getR fl_X11_38 k_v0 rfl E d_X11_days_21 ?_
        obtain ⟨q_4, hq_4, h⟩ := kf_bd h
        refine wa_callV (st2 := []) (c_X3_remember hty (kf_rf v0 5) (kf_rf v0 4) (kf_wtf hty 5 3 k_v0 (by decide) rfl) (kf_wtf hty 4 7 k_v0 (by decide) rfl) σ hq_4) mv_X3_remember ml_X11_206 (kf_wtf hty 5 3 k_v0 (by decide) rfl) rfl (Nat.le_of_ble_eq_true rfl) rfl (Nat.le_of_ble_eq_true rfl) E d_X11_days_24 rfl ?_
        exact b_X11_days_27 E hty v0 v1 k_v0 q_4 h
    · replace h := kf_iff c_2 h
      refine wa_iconst (-1) ic_m1 E d_X11_days_10 ?_
      cases h
      exact wa_iret E d_X11_days_11
/-! X11_undo -/
theorem d_X11_undo_0 : kf_dq cX11_undo 0 1 1 (.aload_n 0) := ⟨by decide +kernel, rfl⟩
theorem d_X11_undo_1 : kf_dq cX11_undo 1 4 3 (.getfield 45) := ⟨by decide +kernel, rfl⟩
theorem d_X11_undo_4 : kf_dq cX11_undo 4 5 1 (.aload_n 0) := ⟨by decide +kernel, rfl⟩
theorem d_X11_undo_5 : kf_dq cX11_undo 5 8 3 (.getfield 38) := ⟨by decide +kernel, rfl⟩
theorem d_X11_undo_8 : kf_dq cX11_undo 8 11 3 (.invokevirtual 224) := ⟨by decide +kernel, rfl⟩
theorem d_X11_undo_11 : kf_dq cX11_undo 11 12 1 (.ireturn) := ⟨by decide +kernel, rfl⟩
def f_X11_undo (v0 : Nat) (σ : kf_St) : Option (Int32 × kf_St) :=
  (f_X3_takeBack (kf_rf v0 5) (kf_rf v0 4) σ).bind fun q_1 =>
  if kf_zb q_1.1 = true then some (q_1.1, q_1.2) else none
set_option maxRecDepth 100000 in
set_option maxHeartbeats 4000000 in
theorem c_X11_undo {G : kf_G} (hty : kf_wt G) (v0 : Nat) (k_v0 : kf_kd G v0 = 12) (σ : kf_St) {q : (Int32 × kf_St)} (h : f_X11_undo v0 σ = some q) : kf_Ct (4) yX11_undo cX11_undo 1 (some .boolean) G [.ref (kf_ad G v0)] σ (some (.int q.1)) q.2 := by
  refine kf_Ct.of hty.1 (lv := [(0, .ref (kf_ad G v0))]) (by decide +kernel) rfl (Nat.le_of_ble_eq_true rfl) (fun X E => ?_)
  unfold f_X11_undo at h
  refine wa_aload_n 0 rfl E d_X11_undo_0 ?_
  refine wa_getR fl_X11_45 k_v0 rfl E d_X11_undo_1 ?_
  refine wa_aload_n 0 rfl E d_X11_undo_4 ?_
  refine wa_getR fl_X11_38 k_v0 rfl E d_X11_undo_5 ?_
  obtain ⟨q_1, hq_1, h⟩ := kf_bd h
  refine wa_callV (st2 := [.int q_1.1]) (c_X3_takeBack hty (kf_rf v0 5) (kf_rf v0 4) (kf_wtf hty 5 3 k_v0 (by decide) rfl) (kf_wtf hty 4 7 k_v0 (by decide) rfl) σ hq_1) mv_X3_takeBack ml_X11_224 (kf_wtf hty 5 3 k_v0 (by decide) rfl) rfl (Nat.le_of_ble_eq_true rfl) rfl (Nat.le_of_ble_eq_true rfl) E d_X11_undo_8 rfl ?_
  obtain ⟨g_2, h⟩ := kf_gd h
  cases h
  exact wa_zret (kf_zbn g_2) E d_X11_undo_11
/-! X11_lifts -/
theorem d_X11_lifts_0 : kf_dq cX11_lifts 0 1 1 (.aload_n 0) := ⟨by decide +kernel, rfl⟩
theorem d_X11_lifts_1 : kf_dq cX11_lifts 1 4 3 (.getfield 19) := ⟨by decide +kernel, rfl⟩
theorem d_X11_lifts_4 : kf_dq cX11_lifts 4 5 1 (.iload_n 1) := ⟨by decide +kernel, rfl⟩
theorem d_X11_lifts_5 : kf_dq cX11_lifts 5 6 1 (.iload_n 2) := ⟨by decide +kernel, rfl⟩
theorem d_X11_lifts_6 : kf_dq cX11_lifts 6 9 3 (.invokevirtual 187) := ⟨by decide +kernel, rfl⟩
theorem d_X11_lifts_9 : kf_dj cX11_lifts 9 12 22 (.ifCond .eq) := ⟨13, by decide +kernel, rfl, by decide⟩
theorem d_X11_lifts_12 : kf_dq cX11_lifts 12 13 1 (.iload_n 3) := ⟨by decide +kernel, rfl⟩
theorem d_X11_lifts_13 : kf_dq cX11_lifts 13 14 1 (.iconst (-1)) := ⟨by decide +kernel, rfl⟩
theorem d_X11_lifts_14 : kf_dj cX11_lifts 14 17 22 (.if_icmp .lt) := ⟨8, by decide +kernel, rfl, by decide⟩
theorem d_X11_lifts_17 : kf_dq cX11_lifts 17 18 1 (.iload_n 3) := ⟨by decide +kernel, rfl⟩
theorem d_X11_lifts_18 : kf_dq cX11_lifts 18 19 1 (.iconst 4) := ⟨by decide +kernel, rfl⟩
theorem d_X11_lifts_19 : kf_dj cX11_lifts 19 22 24 (.if_icmp .lt) := ⟨5, by decide +kernel, rfl, by decide⟩
theorem d_X11_lifts_22 : kf_dq cX11_lifts 22 23 1 (.iconst (-1)) := ⟨by decide +kernel, rfl⟩
theorem d_X11_lifts_23 : kf_dq cX11_lifts 23 24 1 (.ireturn) := ⟨by decide +kernel, rfl⟩
theorem d_X11_lifts_24 : kf_dq cX11_lifts 24 25 1 (.aload_n 0) := ⟨by decide +kernel, rfl⟩
theorem d_X11_lifts_25 : kf_dq cX11_lifts 25 28 3 (.getfield 63) := ⟨by decide +kernel, rfl⟩
theorem d_X11_lifts_28 : kf_dq cX11_lifts 28 29 1 (.iload_n 1) := ⟨by decide +kernel, rfl⟩
theorem d_X11_lifts_29 : kf_dq cX11_lifts 29 30 1 (.iload_n 2) := ⟨by decide +kernel, rfl⟩
theorem d_X11_lifts_30 : kf_dq cX11_lifts 30 33 3 (.invokevirtual 228) := ⟨by decide +kernel, rfl⟩
theorem d_X11_lifts_33 : kf_dq cX11_lifts 33 35 2 (.istore 4) := ⟨by decide +kernel, rfl⟩
theorem d_X11_lifts_35 : kf_dq cX11_lifts 35 37 2 (.iload 4) := ⟨by decide +kernel, rfl⟩
theorem d_X11_lifts_37 : kf_dj cX11_lifts 37 40 43 (.ifCond .ge) := ⟨6, by decide +kernel, rfl, by decide⟩
theorem d_X11_lifts_40 : kf_dq cX11_lifts 40 42 2 (.bipush (-2)) := ⟨by decide +kernel, rfl⟩
theorem d_X11_lifts_42 : kf_dq cX11_lifts 42 43 1 (.ireturn) := ⟨by decide +kernel, rfl⟩
theorem d_X11_lifts_43 : kf_dq cX11_lifts 43 44 1 (.iload_n 3) := ⟨by decide +kernel, rfl⟩
theorem d_X11_lifts_44 : kf_dq cX11_lifts 44 45 1 (.iconst (-1)) := ⟨by decide +kernel, rfl⟩
theorem d_X11_lifts_45 : kf_dj cX11_lifts 45 48 60 (.if_icmp .ne) := ⟨15, by decide +kernel, rfl, by decide⟩
theorem d_X11_lifts_48 : kf_dq cX11_lifts 48 49 1 (.aload_n 0) := ⟨by decide +kernel, rfl⟩
theorem d_X11_lifts_49 : kf_dq cX11_lifts 49 52 3 (.getfield 63) := ⟨by decide +kernel, rfl⟩
theorem d_X11_lifts_52 : kf_dq cX11_lifts 52 54 2 (.iload 4) := ⟨by decide +kernel, rfl⟩
theorem d_X11_lifts_54 : kf_dq cX11_lifts 54 57 3 (.invokevirtual 232) := ⟨by decide +kernel, rfl⟩
theorem d_X11_lifts_57 : kf_dj cX11_lifts 57 60 70 .goto := ⟨13, by decide +kernel, rfl, by decide⟩
theorem d_X11_lifts_60 : kf_dq cX11_lifts 60 61 1 (.aload_n 0) := ⟨by decide +kernel, rfl⟩
theorem d_X11_lifts_61 : kf_dq cX11_lifts 61 64 3 (.getfield 63) := ⟨by decide +kernel, rfl⟩
theorem d_X11_lifts_64 : kf_dq cX11_lifts 64 66 2 (.iload 4) := ⟨by decide +kernel, rfl⟩
theorem d_X11_lifts_66 : kf_dq cX11_lifts 66 67 1 (.iload_n 3) := ⟨by decide +kernel, rfl⟩
theorem d_X11_lifts_67 : kf_dq cX11_lifts 67 70 3 (.invokevirtual 235) := ⟨by decide +kernel, rfl⟩
theorem d_X11_lifts_70 : kf_dq cX11_lifts 70 71 1 (.ireturn) := ⟨by decide +kernel, rfl⟩
def f_X11_lifts (v0 : Nat) (v1 : Int32) (v2 : Int32) (v3 : Int32) (σ : kf_St) : Option (Int32 × kf_St) :=
  (f_X10_hasBoth (kf_rf v0 1) v1 v2 σ).bind fun q_1 =>
  if q_1.1 = 0 then
    some ((-1), q_1.2)
  else
    if v3 < (-1) then
      some ((-1), q_1.2)
    else
      if v3 < 4 then
        (f_X0_nodeKnownBy (kf_rf v0 7) v1 v2 q_1.2).bind fun q_5 =>
        if 0 ≤ q_5.1 then
          if v3 = (-1) then
            (f_X0_levelOf (kf_rf v0 7) q_5.1 q_5.2).bind fun q_9 =>
            some (q_9.1, q_9.2)
          else
            (f_X0_callerOnPath (kf_rf v0 7) q_5.1 v3 q_5.2).bind fun q_8 =>
            some (q_8.1, q_8.2)
        else
          some ((-2), q_5.2)
      else
        some ((-1), q_1.2)
set_option maxRecDepth 100000 in
set_option maxHeartbeats 4000000 in
theorem c_X11_lifts {G : kf_G} (hty : kf_wt G) (v0 : Nat) (v1 : Int32) (v2 : Int32) (v3 : Int32) (k_v0 : kf_kd G v0 = 12) (σ : kf_St) {q : (Int32 × kf_St)} (h : f_X11_lifts v0 v1 v2 v3 σ = some q) : kf_Ct (7) yX11_lifts cX11_lifts 5 (some .int) G [.ref (kf_ad G v0), .int v1, .int v2, .int v3] σ (some (.int q.1)) q.2 := by
  refine kf_Ct.of hty.1 (lv := [(0, .ref (kf_ad G v0)), (1, .int v1), (2, .int v2), (3, .int v3)]) (by decide +kernel) rfl (Nat.le_of_ble_eq_true rfl) (fun X E => ?_)
  unfold f_X11_lifts at h
  refine wa_aload_n 0 rfl E d_X11_lifts_0 ?_
  refine wa_getR fl_X11_19 k_v0 rfl E d_X11_lifts_1 ?_
  refine wa_iload_n 1 rfl E d_X11_lifts_4 ?_
  refine wa_iload_n 2 rfl E d_X11_lifts_5 ?_
  obtain ⟨q_1, hq_1, h⟩ := kf_bd h
  refine wa_callV (st2 := [.int q_1.1]) (c_X10_hasBoth hty (kf_rf v0 1) v1 v2 (kf_wtf hty 1 10 k_v0 (by decide) rfl) σ hq_1) mv_X10_hasBoth ml_X11_187 (kf_wtf hty 1 10 k_v0 (by decide) rfl) rfl (Nat.le_of_ble_eq_true rfl) rfl (Nat.le_of_ble_eq_true rfl) E d_X11_lifts_6 rfl ?_
  refine wa_if_eq E d_X11_lifts_9 (fun c_2 => ?_) (fun c_2 => ?_)
  · replace h := kf_ift c_2 h
    refine wa_iconst (-1) ic_m1 E d_X11_lifts_22 ?_
    cases h
    exact wa_iret E d_X11_lifts_23
  · replace h := kf_iff c_2 h
    refine wa_iload_n 3 rfl E d_X11_lifts_12 ?_
    refine wa_iconst (-1) ic_m1 E d_X11_lifts_13 ?_
    refine wa_icmp_lt E d_X11_lifts_14 (fun c_3 => ?_) (fun c_3 => ?_)
    · replace h := kf_ift c_3 h
      refine wa_iconst (-1) ic_m1 E d_X11_lifts_22 ?_
      cases h
      exact wa_iret E d_X11_lifts_23
    · replace h := kf_iff c_3 h
      refine wa_iload_n 3 rfl E d_X11_lifts_17 ?_
      refine wa_iconst 4 ic_4 E d_X11_lifts_18 ?_
      refine wa_icmp_lt E d_X11_lifts_19 (fun c_4 => ?_) (fun c_4 => ?_)
      · replace h := kf_ift c_4 h
        refine wa_aload_n 0 rfl E d_X11_lifts_24 ?_
        refine wa_getR fl_X11_63 k_v0 rfl E d_X11_lifts_25 ?_
        refine wa_iload_n 1 rfl E d_X11_lifts_28 ?_
        refine wa_iload_n 2 rfl E d_X11_lifts_29 ?_
        obtain ⟨q_5, hq_5, h⟩ := kf_bd h
        refine wa_callV (st2 := [.int q_5.1]) (c_X0_nodeKnownBy hty (kf_rf v0 7) v1 v2 (kf_wtf hty 7 0 k_v0 (by decide) rfl) q_1.2 hq_5) mv_X0_nodeKnownBy ml_X11_228 (kf_wtf hty 7 0 k_v0 (by decide) rfl) rfl (Nat.le_of_ble_eq_true rfl) rfl (Nat.le_of_ble_eq_true rfl) E d_X11_lifts_30 rfl ?_
        refine wa_istore (lv' := [(4, .int q_5.1), (0, .ref (kf_ad G v0)), (1, .int v1), (2, .int v2), (3, .int v3)]) (by decide) rfl E d_X11_lifts_33 ?_
        refine wa_iload 0 rfl E d_X11_lifts_35 ?_
        refine wa_if_ge E d_X11_lifts_37 (fun c_6 => ?_) (fun c_6 => ?_)
        · replace h := kf_ift c_6 h
          refine wa_iload_n 4 rfl E d_X11_lifts_43 ?_
          refine wa_iconst (-1) ic_m1 E d_X11_lifts_44 ?_
          refine wa_icmp_ne E d_X11_lifts_45 (fun c_7 => ?_) (fun c_7 => ?_)
          · replace h := kf_iff c_7 h
            refine wa_aload_n 1 rfl E d_X11_lifts_60 ?_
            refine wa_getR fl_X11_63 k_v0 rfl E d_X11_lifts_61 ?_
            refine wa_iload 0 rfl E d_X11_lifts_64 ?_
            refine wa_iload_n 4 rfl E d_X11_lifts_66 ?_
            obtain ⟨q_8, hq_8, h⟩ := kf_bd h
            refine wa_callV (st2 := [.int q_8.1]) (c_X0_callerOnPath hty (kf_rf v0 7) q_5.1 v3 (kf_wtf hty 7 0 k_v0 (by decide) rfl) q_5.2 hq_8) mv_X0_callerOnPath ml_X11_235 (kf_wtf hty 7 0 k_v0 (by decide) rfl) rfl (Nat.le_of_ble_eq_true rfl) rfl (Nat.le_of_ble_eq_true rfl) E d_X11_lifts_67 rfl ?_
            cases h
            exact wa_iret E d_X11_lifts_70
          · replace h := kf_ift c_7 h
            refine wa_aload_n 1 rfl E d_X11_lifts_48 ?_
            refine wa_getR fl_X11_63 k_v0 rfl E d_X11_lifts_49 ?_
            refine wa_iload 0 rfl E d_X11_lifts_52 ?_
            obtain ⟨q_9, hq_9, h⟩ := kf_bd h
            refine wa_callV (st2 := [.int q_9.1]) (c_X0_levelOf hty (kf_rf v0 7) q_5.1 (kf_wtf hty 7 0 k_v0 (by decide) rfl) q_5.2 hq_9) mv_X0_levelOf ml_X11_232 (kf_wtf hty 7 0 k_v0 (by decide) rfl) rfl (Nat.le_of_ble_eq_true rfl) rfl (Nat.le_of_ble_eq_true rfl) E d_X11_lifts_54 rfl ?_
            refine wa_goto E d_X11_lifts_57 ?_
            cases h
            exact wa_iret E d_X11_lifts_70
        · replace h := kf_iff c_6 h
          refine wa_bipush (-2) bp_m2 E d_X11_lifts_40 ?_
          cases h
          exact wa_iret E d_X11_lifts_42
      · replace h := kf_iff c_4 h
        refine wa_iconst (-1) ic_m1 E d_X11_lifts_22 ?_
        cases h
        exact wa_iret E d_X11_lifts_23
/-! X11_isPick -/
theorem d_X11_isPick_0 : kf_dq cX11_isPick 0 1 1 (.iload_n 0) := ⟨by decide +kernel, rfl⟩
theorem d_X11_isPick_1 : kf_dj cX11_isPick 1 4 9 (.ifCond .eq) := ⟨8, by decide +kernel, rfl, by decide⟩
theorem d_X11_isPick_4 : kf_dq cX11_isPick 4 5 1 (.iload_n 0) := ⟨by decide +kernel, rfl⟩
theorem d_X11_isPick_5 : kf_dq cX11_isPick 5 6 1 (.iconst 1) := ⟨by decide +kernel, rfl⟩
theorem d_X11_isPick_6 : kf_dj cX11_isPick 6 9 13 (.if_icmp .ne) := ⟨7, by decide +kernel, rfl, by decide⟩
theorem d_X11_isPick_9 : kf_dq cX11_isPick 9 10 1 (.iconst 1) := ⟨by decide +kernel, rfl⟩
theorem d_X11_isPick_10 : kf_dj cX11_isPick 10 13 14 .goto := ⟨4, by decide +kernel, rfl, by decide⟩
theorem d_X11_isPick_13 : kf_dq cX11_isPick 13 14 1 (.iconst 0) := ⟨by decide +kernel, rfl⟩
theorem d_X11_isPick_14 : kf_dq cX11_isPick 14 15 1 (.ireturn) := ⟨by decide +kernel, rfl⟩
def f_X11_isPick (v0 : Int32) (σ : kf_St) : Option (Int32 × kf_St) :=
  if v0 = 0 then
    some (1, σ)
  else
    if v0 = 1 then
      some (1, σ)
    else
      some (0, σ)
set_option maxRecDepth 100000 in
set_option maxHeartbeats 4000000 in
theorem c_X11_isPick {G : kf_G} (hty : kf_wt G) (v0 : Int32) (σ : kf_St) {q : (Int32 × kf_St)} (h : f_X11_isPick v0 σ = some q) : kf_Ct (1) yX11_isPick cX11_isPick 1 (some .boolean) G [.int v0] σ (some (.int q.1)) q.2 := by
  refine kf_Ct.of hty.1 (lv := [(0, .int v0)]) (by decide +kernel) rfl (Nat.le_of_ble_eq_true rfl) (fun X E => ?_)
  unfold f_X11_isPick at h
  refine wa_iload_n 0 rfl E d_X11_isPick_0 ?_
  refine wa_if_eq E d_X11_isPick_1 (fun c_1 => ?_) (fun c_1 => ?_)
  · replace h := kf_ift c_1 h
    refine wa_iconst 1 ic_1 E d_X11_isPick_9 ?_
    refine wa_goto E d_X11_isPick_10 ?_
    cases h
    exact wa_zret kf_z1 E d_X11_isPick_14
  · replace h := kf_iff c_1 h
    refine wa_iload_n 0 rfl E d_X11_isPick_4 ?_
    refine wa_iconst 1 ic_1 E d_X11_isPick_5 ?_
    refine wa_icmp_ne E d_X11_isPick_6 (fun c_2 => ?_) (fun c_2 => ?_)
    · replace h := kf_iff c_2 h
      refine wa_iconst 0 ic_0 E d_X11_isPick_13 ?_
      cases h
      exact wa_zret kf_z0 E d_X11_isPick_14
    · replace h := kf_ift c_2 h
      refine wa_iconst 1 ic_1 E d_X11_isPick_9 ?_
      refine wa_goto E d_X11_isPick_10 ?_
      cases h
      exact wa_zret kf_z1 E d_X11_isPick_14
/-! X11_towards -/
theorem d_X11_towards_0 : kf_dq cX11_towards 0 1 1 (.aload_n 0) := ⟨by decide +kernel, rfl⟩
theorem d_X11_towards_1 : kf_dq cX11_towards 1 4 3 (.getfield 19) := ⟨by decide +kernel, rfl⟩
theorem d_X11_towards_4 : kf_dq cX11_towards 4 5 1 (.iload_n 1) := ⟨by decide +kernel, rfl⟩
theorem d_X11_towards_5 : kf_dq cX11_towards 5 6 1 (.iload_n 2) := ⟨by decide +kernel, rfl⟩
theorem d_X11_towards_6 : kf_dq cX11_towards 6 9 3 (.invokevirtual 187) := ⟨by decide +kernel, rfl⟩
theorem d_X11_towards_9 : kf_dj cX11_towards 9 12 19 (.ifCond .eq) := ⟨10, by decide +kernel, rfl, by decide⟩
theorem d_X11_towards_12 : kf_dq cX11_towards 12 13 1 (.iload_n 3) := ⟨by decide +kernel, rfl⟩
theorem d_X11_towards_13 : kf_dq cX11_towards 13 16 3 (.invokestatic 238) := ⟨by decide +kernel, rfl⟩
theorem d_X11_towards_16 : kf_dj cX11_towards 16 19 21 (.ifCond .ne) := ⟨5, by decide +kernel, rfl, by decide⟩
theorem d_X11_towards_19 : kf_dq cX11_towards 19 20 1 (.iconst (-1)) := ⟨by decide +kernel, rfl⟩
theorem d_X11_towards_20 : kf_dq cX11_towards 20 21 1 (.ireturn) := ⟨by decide +kernel, rfl⟩
theorem d_X11_towards_21 : kf_dq cX11_towards 21 23 2 (.bipush (-2)) := ⟨by decide +kernel, rfl⟩
theorem d_X11_towards_23 : kf_dq cX11_towards 23 25 2 (.istore 4) := ⟨by decide +kernel, rfl⟩
theorem d_X11_towards_25 : kf_dq cX11_towards 25 26 1 (.iconst 0) := ⟨by decide +kernel, rfl⟩
theorem d_X11_towards_26 : kf_dq cX11_towards 26 28 2 (.istore 5) := ⟨by decide +kernel, rfl⟩
theorem d_X11_towards_28 : kf_dq cX11_towards 28 29 1 (.iconst 0) := ⟨by decide +kernel, rfl⟩
theorem d_X11_towards_29 : kf_dq cX11_towards 29 31 2 (.istore 6) := ⟨by decide +kernel, rfl⟩
theorem d_X11_towards_31 : kf_dq cX11_towards 31 33 2 (.iload 6) := ⟨by decide +kernel, rfl⟩
theorem d_X11_towards_33 : kf_dq cX11_towards 33 34 1 (.aload_n 0) := ⟨by decide +kernel, rfl⟩
theorem d_X11_towards_34 : kf_dq cX11_towards 34 37 3 (.getfield 19) := ⟨by decide +kernel, rfl⟩
theorem d_X11_towards_37 : kf_dq cX11_towards 37 40 3 (.getfield 241) := ⟨by decide +kernel, rfl⟩
theorem d_X11_towards_40 : kf_dj cX11_towards 40 43 82 (.if_icmp .ge) := ⟨42, by decide +kernel, rfl, by decide⟩
theorem d_X11_towards_43 : kf_dq cX11_towards 43 44 1 (.aload_n 0) := ⟨by decide +kernel, rfl⟩
theorem d_X11_towards_44 : kf_dq cX11_towards 44 47 3 (.getfield 63) := ⟨by decide +kernel, rfl⟩
theorem d_X11_towards_47 : kf_dq cX11_towards 47 48 1 (.iload_n 1) := ⟨by decide +kernel, rfl⟩
theorem d_X11_towards_48 : kf_dq cX11_towards 48 50 2 (.iload 6) := ⟨by decide +kernel, rfl⟩
theorem d_X11_towards_50 : kf_dq cX11_towards 50 51 1 (.iload_n 2) := ⟨by decide +kernel, rfl⟩
theorem d_X11_towards_51 : kf_dq cX11_towards 51 54 3 (.invokevirtual 244) := ⟨by decide +kernel, rfl⟩
theorem d_X11_towards_54 : kf_dq cX11_towards 54 56 2 (.istore 7) := ⟨by decide +kernel, rfl⟩
theorem d_X11_towards_56 : kf_dq cX11_towards 56 58 2 (.iload 4) := ⟨by decide +kernel, rfl⟩
theorem d_X11_towards_58 : kf_dj cX11_towards 58 61 68 (.ifCond .lt) := ⟨10, by decide +kernel, rfl, by decide⟩
theorem d_X11_towards_61 : kf_dq cX11_towards 61 63 2 (.iload 7) := ⟨by decide +kernel, rfl⟩
theorem d_X11_towards_63 : kf_dq cX11_towards 63 65 2 (.iload 5) := ⟨by decide +kernel, rfl⟩
theorem d_X11_towards_65 : kf_dj cX11_towards 65 68 76 (.if_icmp .ge) := ⟨11, by decide +kernel, rfl, by decide⟩
theorem d_X11_towards_68 : kf_dq cX11_towards 68 70 2 (.iload 6) := ⟨by decide +kernel, rfl⟩
theorem d_X11_towards_70 : kf_dq cX11_towards 70 72 2 (.istore 4) := ⟨by decide +kernel, rfl⟩
theorem d_X11_towards_72 : kf_dq cX11_towards 72 74 2 (.iload 7) := ⟨by decide +kernel, rfl⟩
theorem d_X11_towards_74 : kf_dq cX11_towards 74 76 2 (.istore 5) := ⟨by decide +kernel, rfl⟩
theorem d_X11_towards_76 : kf_dq cX11_towards 76 79 3 (.iinc 6 1) := ⟨by decide +kernel, rfl⟩
theorem d_X11_towards_79 : kf_dj cX11_towards 79 82 31 .goto := ⟨(-48), by decide +kernel, rfl, by decide⟩
theorem d_X11_towards_82 : kf_dq cX11_towards 82 83 1 (.iload_n 3) := ⟨by decide +kernel, rfl⟩
theorem d_X11_towards_83 : kf_dj cX11_towards 83 86 91 (.ifCond .ne) := ⟨8, by decide +kernel, rfl, by decide⟩
theorem d_X11_towards_86 : kf_dq cX11_towards 86 88 2 (.iload 4) := ⟨by decide +kernel, rfl⟩
theorem d_X11_towards_88 : kf_dj cX11_towards 88 91 93 .goto := ⟨5, by decide +kernel, rfl, by decide⟩
theorem d_X11_towards_91 : kf_dq cX11_towards 91 93 2 (.iload 5) := ⟨by decide +kernel, rfl⟩
theorem d_X11_towards_93 : kf_dq cX11_towards 93 94 1 (.ireturn) := ⟨by decide +kernel, rfl⟩
def f_X11_towards_76 (rec31 : Nat → Int32 → Int32 → Int32 → Int32 → Int32 → Int32 → kf_St → Option (Int32 × kf_St)) (v0 : Nat) (v1 : Int32) (v2 : Int32) (v3 : Int32) (v4 : Int32) (v5 : Int32) (v6 : Int32) (σ : kf_St) : Option (Int32 × kf_St) :=
  kf_lt (v6 + 1) fun v6_1 =>
  rec31 v0 v1 v2 v3 v4 v5 v6_1 σ
set_option maxRecDepth 100000 in
set_option maxHeartbeats 4000000 in
theorem b_X11_towards_76 {X : kf_X} {G : kf_G} {rec31 : Nat → Int32 → Int32 → Int32 → Int32 → Int32 → Int32 → kf_St → Option (Int32 × kf_St)} {q : (Int32 × kf_St)} (E : kf_ok X G cX11_towards RX11 8 (some .int) (7)) (hty : kf_wt G) (hrec31 : ∀ (v0 : Nat) (v1 : Int32) (v2 : Int32) (v3 : Int32) (v4 : Int32) (v5 : Int32) (v6 : Int32) (k_v0 : kf_kd G v0 = 12) (σ : kf_St), rec31 v0 v1 v2 v3 v4 v5 v6 σ = some q → kf_WA X G 8 (kf_Q X G (some (.int q.1)) q.2) 31 [(0, .ref (kf_ad G v0)), (1, .int v1), (2, .int v2), (3, .int v3), (4, .int v4), (5, .int v5), (6, .int v6)] [] σ) (v0 : Nat) (v1 : Int32) (v2 : Int32) (v3 : Int32) (v4 : Int32) (v5 : Int32) (v6 : Int32) (k_v0 : kf_kd G v0 = 12) (σ : kf_St) (h : f_X11_towards_76 rec31 v0 v1 v2 v3 v4 v5 v6 σ = some q) : kf_WA X G 8 (kf_Q X G (some (.int q.1)) q.2) 76 [(0, .ref (kf_ad G v0)), (1, .int v1), (2, .int v2), (3, .int v3), (4, .int v4), (5, .int v5), (6, .int v6)] [] σ := by
  unfold f_X11_towards_76 at h
  obtain ⟨v6_1, ev6_1, h⟩ := kf_lte h
  refine wa_iinc (lv' := [(6, .int v6_1), (0, .ref (kf_ad G v0)), (1, .int v1), (2, .int v2), (3, .int v3), (4, .int v4), (5, .int v5)]) v6_1 6 rfl (kf_inc ic_1 ev6_1) (by decide) rfl E d_X11_towards_76 ?_
  refine wa_goto E d_X11_towards_79 ?_
  refine wa_sub [1, 2, 3, 4, 5, 6, 0] rfl ?_
  exact hrec31 v0 v1 v2 v3 v4 v5 v6_1 k_v0 σ h
def f_X11_towards_68 (rec31 : Nat → Int32 → Int32 → Int32 → Int32 → Int32 → Int32 → kf_St → Option (Int32 × kf_St)) (v0 : Nat) (v1 : Int32) (v2 : Int32) (v3 : Int32) (v6 : Int32) (v7 : Int32) (σ : kf_St) : Option (Int32 × kf_St) :=
  f_X11_towards_76 rec31 v0 v1 v2 v3 v6 v7 v6 σ
set_option maxRecDepth 100000 in
set_option maxHeartbeats 4000000 in
theorem b_X11_towards_68 {X : kf_X} {G : kf_G} {rec31 : Nat → Int32 → Int32 → Int32 → Int32 → Int32 → Int32 → kf_St → Option (Int32 × kf_St)} {q : (Int32 × kf_St)} (E : kf_ok X G cX11_towards RX11 8 (some .int) (7)) (hty : kf_wt G) (hrec31 : ∀ (v0 : Nat) (v1 : Int32) (v2 : Int32) (v3 : Int32) (v4 : Int32) (v5 : Int32) (v6 : Int32) (k_v0 : kf_kd G v0 = 12) (σ : kf_St), rec31 v0 v1 v2 v3 v4 v5 v6 σ = some q → kf_WA X G 8 (kf_Q X G (some (.int q.1)) q.2) 31 [(0, .ref (kf_ad G v0)), (1, .int v1), (2, .int v2), (3, .int v3), (4, .int v4), (5, .int v5), (6, .int v6)] [] σ) (v0 : Nat) (v1 : Int32) (v2 : Int32) (v3 : Int32) (v6 : Int32) (v7 : Int32) (k_v0 : kf_kd G v0 = 12) (σ : kf_St) (h : f_X11_towards_68 rec31 v0 v1 v2 v3 v6 v7 σ = some q) : kf_WA X G 8 (kf_Q X G (some (.int q.1)) q.2) 68 [(0, .ref (kf_ad G v0)), (1, .int v1), (2, .int v2), (3, .int v3), (6, .int v6), (7, .int v7)] [] σ := by
  unfold f_X11_towards_68 at h
  refine wa_iload 4 rfl E d_X11_towards_68 ?_
  refine wa_istore (lv' := [(4, .int v6), (0, .ref (kf_ad G v0)), (1, .int v1), (2, .int v2), (3, .int v3), (6, .int v6), (7, .int v7)]) (by decide) rfl E d_X11_towards_70 ?_
  refine wa_iload 6 rfl E d_X11_towards_72 ?_
  refine wa_istore (lv' := [(5, .int v7), (4, .int v6), (0, .ref (kf_ad G v0)), (1, .int v1), (2, .int v2), (3, .int v3), (6, .int v6), (7, .int v7)]) (by decide) rfl E d_X11_towards_74 ?_
  refine wa_sub [2, 3, 4, 5, 1, 0, 6] rfl ?_
  exact b_X11_towards_76 E hty hrec31 v0 v1 v2 v3 v6 v7 v6 k_v0 σ h
def f_X11_towards_31_s (rec31 : Nat → Int32 → Int32 → Int32 → Int32 → Int32 → Int32 → kf_St → Option (Int32 × kf_St)) (v0 : Nat) (v1 : Int32) (v2 : Int32) (v3 : Int32) (v4 : Int32) (v5 : Int32) (v6 : Int32) (σ : kf_St) : Option (Int32 × kf_St) :=
  if (σ.1 (kf_rf v0 1) 1) ≤ v6 then
    if v3 = 0 then
      some (v4, σ)
    else
      some (v5, σ)
  else
    (f_X0_unlikeBehindLift (kf_rf v0 7) v1 v6 v2 σ).bind fun q_3 =>
    if v4 < 0 then
      f_X11_towards_68 rec31 v0 v1 v2 v3 v6 q_3.1 q_3.2
    else
      if v5 ≤ q_3.1 then
        f_X11_towards_76 rec31 v0 v1 v2 v3 v4 v5 v6 q_3.2
      else
        f_X11_towards_68 rec31 v0 v1 v2 v3 v6 q_3.1 q_3.2
def f_X11_towards_31 : Nat → Nat → Int32 → Int32 → Int32 → Int32 → Int32 → Int32 → kf_St → Option (Int32 × kf_St)
  | 0, _, _, _, _, _, _, _, _ => none
  | n + 1, v0, v1, v2, v3, v4, v5, v6, σ => f_X11_towards_31_s (f_X11_towards_31 n) v0 v1 v2 v3 v4 v5 v6 σ
set_option maxRecDepth 100000 in
set_option maxHeartbeats 4000000 in
theorem b_X11_towards_31_s {X : kf_X} {G : kf_G} (rec31 : Nat → Int32 → Int32 → Int32 → Int32 → Int32 → Int32 → kf_St → Option (Int32 × kf_St)) {q : (Int32 × kf_St)} (E : kf_ok X G cX11_towards RX11 8 (some .int) (7)) (hty : kf_wt G) (hrec31 : ∀ (v0 : Nat) (v1 : Int32) (v2 : Int32) (v3 : Int32) (v4 : Int32) (v5 : Int32) (v6 : Int32) (k_v0 : kf_kd G v0 = 12) (σ : kf_St), rec31 v0 v1 v2 v3 v4 v5 v6 σ = some q → kf_WA X G 8 (kf_Q X G (some (.int q.1)) q.2) 31 [(0, .ref (kf_ad G v0)), (1, .int v1), (2, .int v2), (3, .int v3), (4, .int v4), (5, .int v5), (6, .int v6)] [] σ) (v0 : Nat) (v1 : Int32) (v2 : Int32) (v3 : Int32) (v4 : Int32) (v5 : Int32) (v6 : Int32) (k_v0 : kf_kd G v0 = 12) (σ : kf_St) (h : f_X11_towards_31_s rec31 v0 v1 v2 v3 v4 v5 v6 σ = some q) : kf_WA X G 8 (kf_Q X G (some (.int q.1)) q.2) 31 [(0, .ref (kf_ad G v0)), (1, .int v1), (2, .int v2), (3, .int v3), (4, .int v4), (5, .int v5), (6, .int v6)] [] σ := by
  unfold f_X11_towards_31_s at h
  refine wa_iload 6 rfl E d_X11_towards_31 ?_
  refine wa_aload_n 0 rfl E d_X11_towards_33 ?_
  refine wa_getR fl_X11_19 k_v0 rfl E d_X11_towards_34 ?_
  refine wa_getI fl_X11_241 (kf_wtf hty 1 10 k_v0 (by decide) rfl) rfl E d_X11_towards_37 ?_
  refine wa_icmp_ge E d_X11_towards_40 (fun c_1 => ?_) (fun c_1 => ?_)
  · replace h := kf_ift c_1 h
    refine wa_iload_n 3 rfl E d_X11_towards_82 ?_
    refine wa_if_ne E d_X11_towards_83 (fun c_2 => ?_) (fun c_2 => ?_)
    · replace h := kf_iff c_2 h
      refine wa_iload 5 rfl E d_X11_towards_91 ?_
      cases h
      exact wa_iret E d_X11_towards_93
    · replace h := kf_ift c_2 h
      refine wa_iload 4 rfl E d_X11_towards_86 ?_
      refine wa_goto E d_X11_towards_88 ?_
      cases h
      exact wa_iret E d_X11_towards_93
  · replace h := kf_iff c_1 h
    refine wa_aload_n 0 rfl E d_X11_towards_43 ?_
    refine wa_getR fl_X11_63 k_v0 rfl E d_X11_towards_44 ?_
    refine wa_iload_n 1 rfl E d_X11_towards_47 ?_
    refine wa_iload 6 rfl E d_X11_towards_48 ?_
    refine wa_iload_n 2 rfl E d_X11_towards_50 ?_
    obtain ⟨q_3, hq_3, h⟩ := kf_bd h
    refine wa_callV (st2 := [.int q_3.1]) (c_X0_unlikeBehindLift hty (kf_rf v0 7) v1 v6 v2 (kf_wtf hty 7 0 k_v0 (by decide) rfl) σ hq_3) mv_X0_unlikeBehindLift ml_X11_244 (kf_wtf hty 7 0 k_v0 (by decide) rfl) rfl (Nat.le_of_ble_eq_true rfl) rfl (Nat.le_of_ble_eq_true rfl) E d_X11_towards_51 rfl ?_
    refine wa_istore (lv' := [(7, .int q_3.1), (0, .ref (kf_ad G v0)), (1, .int v1), (2, .int v2), (3, .int v3), (4, .int v4), (5, .int v5), (6, .int v6)]) (by decide) rfl E d_X11_towards_54 ?_
    refine wa_iload 5 rfl E d_X11_towards_56 ?_
    refine wa_if_lt E d_X11_towards_58 (fun c_4 => ?_) (fun c_4 => ?_)
    · replace h := kf_ift c_4 h
      refine wa_sub [1, 2, 3, 4, 7, 0] rfl ?_
      exact b_X11_towards_68 E hty hrec31 v0 v1 v2 v3 v6 q_3.1 k_v0 q_3.2 h
    · replace h := kf_iff c_4 h
      refine wa_iload 0 rfl E d_X11_towards_61 ?_
      refine wa_iload 6 rfl E d_X11_towards_63 ?_
      refine wa_icmp_ge E d_X11_towards_65 (fun c_5 => ?_) (fun c_5 => ?_)
      · replace h := kf_ift c_5 h
        refine wa_sub [1, 2, 3, 4, 5, 6, 7] rfl ?_
        exact b_X11_towards_76 E hty hrec31 v0 v1 v2 v3 v4 v5 v6 k_v0 q_3.2 h
      · replace h := kf_iff c_5 h
        refine wa_sub [1, 2, 3, 4, 7, 0] rfl ?_
        exact b_X11_towards_68 E hty hrec31 v0 v1 v2 v3 v6 q_3.1 k_v0 q_3.2 h
theorem b_X11_towards_31 {X : kf_X} {G : kf_G} {q : (Int32 × kf_St)} (E : kf_ok X G cX11_towards RX11 8 (some .int) (7)) (hty : kf_wt G) : ∀ (N : Nat) (v0 : Nat) (v1 : Int32) (v2 : Int32) (v3 : Int32) (v4 : Int32) (v5 : Int32) (v6 : Int32) (k_v0 : kf_kd G v0 = 12) (σ : kf_St) (_ : f_X11_towards_31 N v0 v1 v2 v3 v4 v5 v6 σ = some q), kf_WA X G 8 (kf_Q X G (some (.int q.1)) q.2) 31 [(0, .ref (kf_ad G v0)), (1, .int v1), (2, .int v2), (3, .int v3), (4, .int v4), (5, .int v5), (6, .int v6)] [] σ
  | 0, _, _, _, _, _, _, _, _, _, h => by cases h
  | N + 1, v0, v1, v2, v3, v4, v5, v6, k_v0, σ, h => b_X11_towards_31_s _ E hty (b_X11_towards_31 E hty N) v0 v1 v2 v3 v4 v5 v6 k_v0 σ h
def f_X11_towards (v0 : Nat) (v1 : Int32) (v2 : Int32) (v3 : Int32) (σ : kf_St) : Option (Int32 × kf_St) :=
  (f_X10_hasBoth (kf_rf v0 1) v1 v2 σ).bind fun q_1 =>
  if q_1.1 = 0 then
    some ((-1), q_1.2)
  else
    (f_X11_isPick v3 q_1.2).bind fun q_3 =>
    if q_3.1 = 0 then
      some ((-1), q_3.2)
    else
      f_X11_towards_31 kf_F v0 v1 v2 v3 (-2) 0 0 q_3.2
set_option maxRecDepth 100000 in
set_option maxHeartbeats 4000000 in
theorem c_X11_towards {G : kf_G} (hty : kf_wt G) (v0 : Nat) (v1 : Int32) (v2 : Int32) (v3 : Int32) (k_v0 : kf_kd G v0 = 12) (σ : kf_St) {q : (Int32 × kf_St)} (h : f_X11_towards v0 v1 v2 v3 σ = some q) : kf_Ct (7) yX11_towards cX11_towards 8 (some .int) G [.ref (kf_ad G v0), .int v1, .int v2, .int v3] σ (some (.int q.1)) q.2 := by
  refine kf_Ct.of hty.1 (lv := [(0, .ref (kf_ad G v0)), (1, .int v1), (2, .int v2), (3, .int v3)]) (by decide +kernel) rfl (Nat.le_of_ble_eq_true rfl) (fun X E => ?_)
  unfold f_X11_towards at h
  refine wa_aload_n 0 rfl E d_X11_towards_0 ?_
  refine wa_getR fl_X11_19 k_v0 rfl E d_X11_towards_1 ?_
  refine wa_iload_n 1 rfl E d_X11_towards_4 ?_
  refine wa_iload_n 2 rfl E d_X11_towards_5 ?_
  obtain ⟨q_1, hq_1, h⟩ := kf_bd h
  refine wa_callV (st2 := [.int q_1.1]) (c_X10_hasBoth hty (kf_rf v0 1) v1 v2 (kf_wtf hty 1 10 k_v0 (by decide) rfl) σ hq_1) mv_X10_hasBoth ml_X11_187 (kf_wtf hty 1 10 k_v0 (by decide) rfl) rfl (Nat.le_of_ble_eq_true rfl) rfl (Nat.le_of_ble_eq_true rfl) E d_X11_towards_6 rfl ?_
  refine wa_if_eq E d_X11_towards_9 (fun c_2 => ?_) (fun c_2 => ?_)
  · replace h := kf_ift c_2 h
    refine wa_iconst (-1) ic_m1 E d_X11_towards_19 ?_
    cases h
    exact wa_iret E d_X11_towards_20
  · replace h := kf_iff c_2 h
    refine wa_iload_n 3 rfl E d_X11_towards_12 ?_
    obtain ⟨q_3, hq_3, h⟩ := kf_bd h
    refine wa_callS (st2 := [.int q_3.1]) (c_X11_isPick hty v3 q_1.2 hq_3) mt_X11_isPick ml_X11_238 rfl (Nat.le_of_ble_eq_true rfl) rfl (Nat.le_of_ble_eq_true rfl) E d_X11_towards_13 rfl ?_
    refine wa_if_ne E d_X11_towards_16 (fun c_4 => ?_) (fun c_4 => ?_)
    · replace h := kf_iff c_4 h
      refine wa_bipush (-2) bp_m2 E d_X11_towards_21 ?_
      refine wa_istore (lv' := [(4, .int (-2)), (0, .ref (kf_ad G v0)), (1, .int v1), (2, .int v2), (3, .int v3)]) (by decide) rfl E d_X11_towards_23 ?_
      refine wa_iconst 0 ic_0 E d_X11_towards_25 ?_
      refine wa_istore (lv' := [(5, .int 0), (4, .int (-2)), (0, .ref (kf_ad G v0)), (1, .int v1), (2, .int v2), (3, .int v3)]) (by decide) rfl E d_X11_towards_26 ?_
      refine wa_iconst 0 ic_0 E d_X11_towards_28 ?_
      refine wa_istore (lv' := [(6, .int 0), (5, .int 0), (4, .int (-2)), (0, .ref (kf_ad G v0)), (1, .int v1), (2, .int v2), (3, .int v3)]) (by decide) rfl E d_X11_towards_29 ?_
      refine wa_sub [3, 4, 5, 6, 2, 1, 0] rfl ?_
      exact b_X11_towards_31 E hty kf_F v0 v1 v2 v3 (-2) 0 0 k_v0 q_3.2 h
    · replace h := kf_ift c_4 h
      refine wa_iconst (-1) ic_m1 E d_X11_towards_19 ?_
      cases h
      exact wa_iret E d_X11_towards_20
/-! X11_without -/
theorem d_X11_without_0 : kf_dq cX11_without 0 1 1 (.aload_n 0) := ⟨by decide +kernel, rfl⟩
theorem d_X11_without_1 : kf_dq cX11_without 1 4 3 (.getfield 19) := ⟨by decide +kernel, rfl⟩
theorem d_X11_without_4 : kf_dq cX11_without 4 5 1 (.iload_n 1) := ⟨by decide +kernel, rfl⟩
theorem d_X11_without_5 : kf_dq cX11_without 5 8 3 (.invokevirtual 162) := ⟨by decide +kernel, rfl⟩
theorem d_X11_without_8 : kf_dj cX11_without 8 11 22 (.ifCond .eq) := ⟨14, by decide +kernel, rfl, by decide⟩
theorem d_X11_without_11 : kf_dq cX11_without 11 12 1 (.iload_n 2) := ⟨by decide +kernel, rfl⟩
theorem d_X11_without_12 : kf_dq cX11_without 12 13 1 (.iconst 1) := ⟨by decide +kernel, rfl⟩
theorem d_X11_without_13 : kf_dj cX11_without 13 16 22 (.if_icmp .lt) := ⟨9, by decide +kernel, rfl, by decide⟩
theorem d_X11_without_16 : kf_dq cX11_without 16 17 1 (.iload_n 2) := ⟨by decide +kernel, rfl⟩
theorem d_X11_without_17 : kf_dq cX11_without 17 19 2 (.bipush 60) := ⟨by decide +kernel, rfl⟩
theorem d_X11_without_19 : kf_dj cX11_without 19 22 24 (.if_icmp .le) := ⟨5, by decide +kernel, rfl, by decide⟩
theorem d_X11_without_22 : kf_dq cX11_without 22 23 1 (.iconst (-1)) := ⟨by decide +kernel, rfl⟩
theorem d_X11_without_23 : kf_dq cX11_without 23 24 1 (.ireturn) := ⟨by decide +kernel, rfl⟩
theorem d_X11_without_24 : kf_dq cX11_without 24 25 1 (.aload_n 0) := ⟨by decide +kernel, rfl⟩
theorem d_X11_without_25 : kf_dq cX11_without 25 28 3 (.getfield 38) := ⟨by decide +kernel, rfl⟩
theorem d_X11_without_28 : kf_dq cX11_without 28 31 3 (.getfield 177) := ⟨by decide +kernel, rfl⟩
theorem d_X11_without_31 : kf_dq cX11_without 31 32 1 (.iconst 1) := ⟨by decide +kernel, rfl⟩
theorem d_X11_without_32 : kf_dq cX11_without 32 33 1 (.iload_n 1) := ⟨by decide +kernel, rfl⟩
theorem d_X11_without_33 : kf_dq cX11_without 33 34 1 (.ishl) := ⟨by decide +kernel, rfl⟩
theorem d_X11_without_34 : kf_dq cX11_without 34 35 1 (.iconst (-1)) := ⟨by decide +kernel, rfl⟩
theorem d_X11_without_35 : kf_dq cX11_without 35 36 1 (.ixor) := ⟨by decide +kernel, rfl⟩
theorem d_X11_without_36 : kf_dq cX11_without 36 37 1 (.iand) := ⟨by decide +kernel, rfl⟩
theorem d_X11_without_37 : kf_dq cX11_without 37 38 1 (.istore_n 3) := ⟨by decide +kernel, rfl⟩
theorem d_X11_without_38 : kf_dq cX11_without 38 39 1 (.aload_n 0) := ⟨by decide +kernel, rfl⟩
theorem d_X11_without_39 : kf_dq cX11_without 39 42 3 (.getfield 19) := ⟨by decide +kernel, rfl⟩
theorem d_X11_without_42 : kf_dq cX11_without 42 43 1 (.aload_n 0) := ⟨by decide +kernel, rfl⟩
theorem d_X11_without_43 : kf_dq cX11_without 43 46 3 (.getfield 63) := ⟨by decide +kernel, rfl⟩
theorem d_X11_without_46 : kf_dq cX11_without 46 47 1 (.aload_n 0) := ⟨by decide +kernel, rfl⟩
theorem d_X11_without_47 : kf_dq cX11_without 47 50 3 (.getfield 19) := ⟨by decide +kernel, rfl⟩
theorem d_X11_without_50 : kf_dq cX11_without 50 53 3 (.getfield 168) := ⟨by decide +kernel, rfl⟩
theorem d_X11_without_53 : kf_dq cX11_without 53 54 1 (.iload_n 1) := ⟨by decide +kernel, rfl⟩
theorem d_X11_without_54 : kf_dq cX11_without 54 55 1 (.iaload) := ⟨by decide +kernel, rfl⟩
theorem d_X11_without_55 : kf_dq cX11_without 55 56 1 (.iload_n 2) := ⟨by decide +kernel, rfl⟩
theorem d_X11_without_56 : kf_dq cX11_without 56 57 1 (.iload_n 3) := ⟨by decide +kernel, rfl⟩
theorem d_X11_without_57 : kf_dq cX11_without 57 58 1 (.iconst (-1)) := ⟨by decide +kernel, rfl⟩
theorem d_X11_without_58 : kf_dq cX11_without 58 61 3 (.invokevirtual 248) := ⟨by decide +kernel, rfl⟩
theorem d_X11_without_61 : kf_dq cX11_without 61 64 3 (.getfield 123) := ⟨by decide +kernel, rfl⟩
theorem d_X11_without_64 : kf_dq cX11_without 64 67 3 (.invokevirtual 141) := ⟨by decide +kernel, rfl⟩
theorem d_X11_without_67 : kf_dq cX11_without 67 68 1 (.ireturn) := ⟨by decide +kernel, rfl⟩
def f_X11_without (v0 : Nat) (v1 : Int32) (v2 : Int32) (σ : kf_St) : Option (Int32 × kf_St) :=
  (f_X10_hasRound (kf_rf v0 1) v1 σ).bind fun q_1 =>
  if q_1.1 = 0 then
    some ((-1), q_1.2)
  else
    if v2 < 1 then
      some ((-1), q_1.2)
    else
      if v2 ≤ 60 then
        kf_lt (((q_1.2.1 (kf_rf v0 4) 2) &&& (((1 : Int32) <<< (v1 &&& 31)) ^^^ (-1)))) fun v3_5 =>
        if kf_ix v1 (kf_ln (kf_rf (kf_rf v0 1) 11)) = true then
        (f_X0_after (kf_rf v0 7) (q_1.2.1 (kf_rf (kf_rf v0 1) 11) (Int32.toNatClampNeg v1)) v2 v3_5 (-1) q_1.2).bind fun q_7 =>
        (f_X10_knownBy (kf_rf v0 1) (kf_rf (kf_rf (kf_rf v0 7) 3) 0) q_7).bind fun q_8 =>
        some (q_8.1, q_8.2)
        else none
      else
        some ((-1), q_1.2)
set_option maxRecDepth 100000 in
set_option maxHeartbeats 4000000 in
theorem c_X11_without {G : kf_G} (hty : kf_wt G) (v0 : Nat) (v1 : Int32) (v2 : Int32) (k_v0 : kf_kd G v0 = 12) (σ : kf_St) {q : (Int32 × kf_St)} (h : f_X11_without v0 v1 v2 σ = some q) : kf_Ct (8) yX11_without cX11_without 4 (some .int) G [.ref (kf_ad G v0), .int v1, .int v2] σ (some (.int q.1)) q.2 := by
  refine kf_Ct.of hty.1 (lv := [(0, .ref (kf_ad G v0)), (1, .int v1), (2, .int v2)]) (by decide +kernel) rfl (Nat.le_of_ble_eq_true rfl) (fun X E => ?_)
  unfold f_X11_without at h
  refine wa_aload_n 0 rfl E d_X11_without_0 ?_
  refine wa_getR fl_X11_19 k_v0 rfl E d_X11_without_1 ?_
  refine wa_iload_n 1 rfl E d_X11_without_4 ?_
  obtain ⟨q_1, hq_1, h⟩ := kf_bd h
  refine wa_callV (st2 := [.int q_1.1]) (c_X10_hasRound hty (kf_rf v0 1) v1 (kf_wtf hty 1 10 k_v0 (by decide) rfl) σ hq_1) mv_X10_hasRound ml_X11_162 (kf_wtf hty 1 10 k_v0 (by decide) rfl) rfl (Nat.le_of_ble_eq_true rfl) rfl (Nat.le_of_ble_eq_true rfl) E d_X11_without_5 rfl ?_
  refine wa_if_eq E d_X11_without_8 (fun c_2 => ?_) (fun c_2 => ?_)
  · replace h := kf_ift c_2 h
    refine wa_iconst (-1) ic_m1 E d_X11_without_22 ?_
    cases h
    exact wa_iret E d_X11_without_23
  · replace h := kf_iff c_2 h
    refine wa_iload_n 2 rfl E d_X11_without_11 ?_
    refine wa_iconst 1 ic_1 E d_X11_without_12 ?_
    refine wa_icmp_lt E d_X11_without_13 (fun c_3 => ?_) (fun c_3 => ?_)
    · replace h := kf_ift c_3 h
      refine wa_iconst (-1) ic_m1 E d_X11_without_22 ?_
      cases h
      exact wa_iret E d_X11_without_23
    · replace h := kf_iff c_3 h
      refine wa_iload_n 2 rfl E d_X11_without_16 ?_
      refine wa_bipush 60 bp_60 E d_X11_without_17 ?_
      refine wa_icmp_le E d_X11_without_19 (fun c_4 => ?_) (fun c_4 => ?_)
      · replace h := kf_ift c_4 h
        refine wa_aload_n 0 rfl E d_X11_without_24 ?_
        refine wa_getR fl_X11_38 k_v0 rfl E d_X11_without_25 ?_
        refine wa_getI fl_X11_177 (kf_wtf hty 4 7 k_v0 (by decide) rfl) rfl E d_X11_without_28 ?_
        refine wa_iconst 1 ic_1 E d_X11_without_31 ?_
        refine wa_iload_n 1 rfl E d_X11_without_32 ?_
        refine wa_ishl E d_X11_without_33 ?_
        refine wa_iconst (-1) ic_m1 E d_X11_without_34 ?_
        refine wa_ixor E d_X11_without_35 ?_
        refine wa_iand E d_X11_without_36 ?_
        obtain ⟨v3_5, ev3_5, h⟩ := kf_lte h
        refine wa_topi ev3_5 ?_
        refine wa_istore_n (lv' := [(3, .int v3_5), (0, .ref (kf_ad G v0)), (1, .int v1), (2, .int v2)]) rfl (by decide) rfl E d_X11_without_37 ?_
        refine wa_aload_n 1 rfl E d_X11_without_38 ?_
        refine wa_getR fl_X11_19 k_v0 rfl E d_X11_without_39 ?_
        refine wa_aload_n 1 rfl E d_X11_without_42 ?_
        refine wa_getR fl_X11_63 k_v0 rfl E d_X11_without_43 ?_
        refine wa_aload_n 1 rfl E d_X11_without_46 ?_
        refine wa_getR fl_X11_19 k_v0 rfl E d_X11_without_47 ?_
        refine wa_getR fl_X11_168 (kf_wtf hty 1 10 k_v0 (by decide) rfl) rfl E d_X11_without_50 ?_
        refine wa_iload_n 2 rfl E d_X11_without_53 ?_
        obtain ⟨g_6, h⟩ := kf_gd h
        refine wa_iald (kf_wtf hty 11 49 (kf_wtf hty 1 10 k_v0 (by decide) rfl) (by decide) rfl) g_6 E d_X11_without_54 ?_
        refine wa_iload_n 3 rfl E d_X11_without_55 ?_
        refine wa_iload_n 0 rfl E d_X11_without_56 ?_
        refine wa_iconst (-1) ic_m1 E d_X11_without_57 ?_
        obtain ⟨q_7, hq_7, h⟩ := kf_bd h
        refine wa_callV (st2 := [.ref (kf_ad G (kf_rf (kf_rf v0 7) 3)), .ref (kf_ad G (kf_rf v0 1))]) (c_X0_after hty (kf_rf v0 7) (q_1.2.1 (kf_rf (kf_rf v0 1) 11) (Int32.toNatClampNeg v1)) v2 v3_5 (-1) (kf_wtf hty 7 0 k_v0 (by decide) rfl) q_1.2 hq_7) mv_X0_after ml_X11_248 (kf_wtf hty 7 0 k_v0 (by decide) rfl) rfl (Nat.le_of_ble_eq_true rfl) rfl (Nat.le_of_ble_eq_true rfl) E d_X11_without_58 rfl ?_
        refine wa_getR fl_X11_123 (kf_wtf hty 3 1 (kf_wtf hty 7 0 k_v0 (by decide) rfl) (by decide) rfl) rfl E d_X11_without_61 ?_
        obtain ⟨q_8, hq_8, h⟩ := kf_bd h
        refine wa_callV (st2 := [.int q_8.1]) (c_X10_knownBy hty (kf_rf v0 1) (kf_rf (kf_rf (kf_rf v0 7) 3) 0) (kf_wtf hty 1 10 k_v0 (by decide) rfl) (kf_wtf hty 0 49 (kf_wtf hty 3 1 (kf_wtf hty 7 0 k_v0 (by decide) rfl) (by decide) rfl) (by decide) rfl) q_7 hq_8) mv_X10_knownBy ml_X11_141 (kf_wtf hty 1 10 k_v0 (by decide) rfl) rfl (Nat.le_of_ble_eq_true rfl) rfl (Nat.le_of_ble_eq_true rfl) E d_X11_without_64 rfl ?_
        cases h
        exact wa_iret E d_X11_without_67
      · replace h := kf_iff c_4 h
        refine wa_iconst (-1) ic_m1 E d_X11_without_22 ?_
        cases h
        exact wa_iret E d_X11_without_23
/-! X11_closestTwo -/
theorem d_X11_closestTwo_0 : kf_dq cX11_closestTwo 0 2 2 (.bipush (-2)) := ⟨by decide +kernel, rfl⟩
theorem d_X11_closestTwo_2 : kf_dq cX11_closestTwo 2 3 1 (.istore_n 3) := ⟨by decide +kernel, rfl⟩
theorem d_X11_closestTwo_3 : kf_dq cX11_closestTwo 3 5 2 (.bipush (-2)) := ⟨by decide +kernel, rfl⟩
theorem d_X11_closestTwo_5 : kf_dq cX11_closestTwo 5 7 2 (.istore 4) := ⟨by decide +kernel, rfl⟩
theorem d_X11_closestTwo_7 : kf_dq cX11_closestTwo 7 8 1 (.iconst 0) := ⟨by decide +kernel, rfl⟩
theorem d_X11_closestTwo_8 : kf_dq cX11_closestTwo 8 10 2 (.istore 5) := ⟨by decide +kernel, rfl⟩
theorem d_X11_closestTwo_10 : kf_dq cX11_closestTwo 10 12 2 (.iload 5) := ⟨by decide +kernel, rfl⟩
theorem d_X11_closestTwo_12 : kf_dq cX11_closestTwo 12 13 1 (.iload_n 1) := ⟨by decide +kernel, rfl⟩
theorem d_X11_closestTwo_13 : kf_dj cX11_closestTwo 13 16 75 (.if_icmp .ge) := ⟨62, by decide +kernel, rfl, by decide⟩
theorem d_X11_closestTwo_16 : kf_dq cX11_closestTwo 16 18 2 (.iload 5) := ⟨by decide +kernel, rfl⟩
theorem d_X11_closestTwo_18 : kf_dq cX11_closestTwo 18 19 1 (.iconst 1) := ⟨by decide +kernel, rfl⟩
theorem d_X11_closestTwo_19 : kf_dq cX11_closestTwo 19 20 1 (.iadd) := ⟨by decide +kernel, rfl⟩
theorem d_X11_closestTwo_20 : kf_dq cX11_closestTwo 20 22 2 (.istore 6) := ⟨by decide +kernel, rfl⟩
theorem d_X11_closestTwo_22 : kf_dq cX11_closestTwo 22 24 2 (.iload 6) := ⟨by decide +kernel, rfl⟩
theorem d_X11_closestTwo_24 : kf_dq cX11_closestTwo 24 25 1 (.iload_n 1) := ⟨by decide +kernel, rfl⟩
theorem d_X11_closestTwo_25 : kf_dj cX11_closestTwo 25 28 69 (.if_icmp .ge) := ⟨44, by decide +kernel, rfl, by decide⟩
theorem d_X11_closestTwo_28 : kf_dq cX11_closestTwo 28 29 1 (.aload_n 0) := ⟨by decide +kernel, rfl⟩
theorem d_X11_closestTwo_29 : kf_dq cX11_closestTwo 29 31 2 (.iload 5) := ⟨by decide +kernel, rfl⟩
theorem d_X11_closestTwo_31 : kf_dq cX11_closestTwo 31 32 1 (.aload_n 0) := ⟨by decide +kernel, rfl⟩
theorem d_X11_closestTwo_32 : kf_dq cX11_closestTwo 32 34 2 (.iload 6) := ⟨by decide +kernel, rfl⟩
theorem d_X11_closestTwo_34 : kf_dq cX11_closestTwo 34 37 3 (.invokestatic 288) := ⟨by decide +kernel, rfl⟩
theorem d_X11_closestTwo_37 : kf_dq cX11_closestTwo 37 39 2 (.istore 7) := ⟨by decide +kernel, rfl⟩
theorem d_X11_closestTwo_39 : kf_dq cX11_closestTwo 39 40 1 (.iload_n 3) := ⟨by decide +kernel, rfl⟩
theorem d_X11_closestTwo_40 : kf_dj cX11_closestTwo 40 43 50 (.ifCond .lt) := ⟨10, by decide +kernel, rfl, by decide⟩
theorem d_X11_closestTwo_43 : kf_dq cX11_closestTwo 43 45 2 (.iload 7) := ⟨by decide +kernel, rfl⟩
theorem d_X11_closestTwo_45 : kf_dq cX11_closestTwo 45 47 2 (.iload 4) := ⟨by decide +kernel, rfl⟩
theorem d_X11_closestTwo_47 : kf_dj cX11_closestTwo 47 50 63 (.if_icmp .ge) := ⟨16, by decide +kernel, rfl, by decide⟩
theorem d_X11_closestTwo_50 : kf_dq cX11_closestTwo 50 52 2 (.bipush 10) := ⟨by decide +kernel, rfl⟩
theorem d_X11_closestTwo_52 : kf_dq cX11_closestTwo 52 54 2 (.iload 5) := ⟨by decide +kernel, rfl⟩
theorem d_X11_closestTwo_54 : kf_dq cX11_closestTwo 54 55 1 (.imul) := ⟨by decide +kernel, rfl⟩
theorem d_X11_closestTwo_55 : kf_dq cX11_closestTwo 55 57 2 (.iload 6) := ⟨by decide +kernel, rfl⟩
theorem d_X11_closestTwo_57 : kf_dq cX11_closestTwo 57 58 1 (.iadd) := ⟨by decide +kernel, rfl⟩
theorem d_X11_closestTwo_58 : kf_dq cX11_closestTwo 58 59 1 (.istore_n 3) := ⟨by decide +kernel, rfl⟩
theorem d_X11_closestTwo_59 : kf_dq cX11_closestTwo 59 61 2 (.iload 7) := ⟨by decide +kernel, rfl⟩
theorem d_X11_closestTwo_61 : kf_dq cX11_closestTwo 61 63 2 (.istore 4) := ⟨by decide +kernel, rfl⟩
theorem d_X11_closestTwo_63 : kf_dq cX11_closestTwo 63 66 3 (.iinc 6 1) := ⟨by decide +kernel, rfl⟩
theorem d_X11_closestTwo_66 : kf_dj cX11_closestTwo 66 69 22 .goto := ⟨(-44), by decide +kernel, rfl, by decide⟩
theorem d_X11_closestTwo_69 : kf_dq cX11_closestTwo 69 72 3 (.iinc 5 1) := ⟨by decide +kernel, rfl⟩
theorem d_X11_closestTwo_72 : kf_dj cX11_closestTwo 72 75 10 .goto := ⟨(-62), by decide +kernel, rfl, by decide⟩
theorem d_X11_closestTwo_75 : kf_dq cX11_closestTwo 75 76 1 (.iload_n 2) := ⟨by decide +kernel, rfl⟩
theorem d_X11_closestTwo_76 : kf_dj cX11_closestTwo 76 79 83 (.ifCond .ne) := ⟨7, by decide +kernel, rfl, by decide⟩
theorem d_X11_closestTwo_79 : kf_dq cX11_closestTwo 79 80 1 (.iload_n 3) := ⟨by decide +kernel, rfl⟩
theorem d_X11_closestTwo_80 : kf_dj cX11_closestTwo 80 83 85 .goto := ⟨5, by decide +kernel, rfl, by decide⟩
theorem d_X11_closestTwo_83 : kf_dq cX11_closestTwo 83 85 2 (.iload 4) := ⟨by decide +kernel, rfl⟩
theorem d_X11_closestTwo_85 : kf_dq cX11_closestTwo 85 86 1 (.ireturn) := ⟨by decide +kernel, rfl⟩
def f_X11_closestTwo_63 (rec10 : Nat → Int32 → Int32 → Int32 → Int32 → Int32 → kf_St → Option (Int32 × kf_St)) (rec22 : Nat → Int32 → Int32 → Int32 → Int32 → Int32 → Int32 → kf_St → Option (Int32 × kf_St)) (v0 : Nat) (v1 : Int32) (v2 : Int32) (v3 : Int32) (v4 : Int32) (v5 : Int32) (v6 : Int32) (σ : kf_St) : Option (Int32 × kf_St) :=
  kf_lt (v6 + 1) fun v6_1 =>
  rec22 v0 v1 v2 v3 v4 v5 v6_1 σ
set_option maxRecDepth 100000 in
set_option maxHeartbeats 4000000 in
theorem b_X11_closestTwo_63 {X : kf_X} {G : kf_G} {rec10 : Nat → Int32 → Int32 → Int32 → Int32 → Int32 → kf_St → Option (Int32 × kf_St)} {rec22 : Nat → Int32 → Int32 → Int32 → Int32 → Int32 → Int32 → kf_St → Option (Int32 × kf_St)} {q : (Int32 × kf_St)} (E : kf_ok X G cX11_closestTwo RX11 8 (some .int) (2)) (hty : kf_wt G) (hrec10 : ∀ (v0 : Nat) (v1 : Int32) (v2 : Int32) (v3 : Int32) (v4 : Int32) (v5 : Int32) (k_v0 : kf_kd G v0 = 50) (σ : kf_St), rec10 v0 v1 v2 v3 v4 v5 σ = some q → kf_WA X G 8 (kf_Q X G (some (.int q.1)) q.2) 10 [(0, .ref (kf_ad G v0)), (1, .int v1), (2, .int v2), (3, .int v3), (4, .int v4), (5, .int v5)] [] σ) (hrec22 : ∀ (v0 : Nat) (v1 : Int32) (v2 : Int32) (v3 : Int32) (v4 : Int32) (v5 : Int32) (v6 : Int32) (k_v0 : kf_kd G v0 = 50) (σ : kf_St), rec22 v0 v1 v2 v3 v4 v5 v6 σ = some q → kf_WA X G 8 (kf_Q X G (some (.int q.1)) q.2) 22 [(0, .ref (kf_ad G v0)), (1, .int v1), (2, .int v2), (3, .int v3), (4, .int v4), (5, .int v5), (6, .int v6)] [] σ) (v0 : Nat) (v1 : Int32) (v2 : Int32) (v3 : Int32) (v4 : Int32) (v5 : Int32) (v6 : Int32) (k_v0 : kf_kd G v0 = 50) (σ : kf_St) (h : f_X11_closestTwo_63 rec10 rec22 v0 v1 v2 v3 v4 v5 v6 σ = some q) : kf_WA X G 8 (kf_Q X G (some (.int q.1)) q.2) 63 [(0, .ref (kf_ad G v0)), (1, .int v1), (2, .int v2), (3, .int v3), (4, .int v4), (5, .int v5), (6, .int v6)] [] σ := by
  unfold f_X11_closestTwo_63 at h
  obtain ⟨v6_1, ev6_1, h⟩ := kf_lte h
  refine wa_iinc (lv' := [(6, .int v6_1), (0, .ref (kf_ad G v0)), (1, .int v1), (2, .int v2), (3, .int v3), (4, .int v4), (5, .int v5)]) v6_1 6 rfl (kf_inc ic_1 ev6_1) (by decide) rfl E d_X11_closestTwo_63 ?_
  refine wa_goto E d_X11_closestTwo_66 ?_
  refine wa_sub [1, 2, 3, 4, 5, 6, 0] rfl ?_
  exact hrec22 v0 v1 v2 v3 v4 v5 v6_1 k_v0 σ h
def f_X11_closestTwo_50 (rec10 : Nat → Int32 → Int32 → Int32 → Int32 → Int32 → kf_St → Option (Int32 × kf_St)) (rec22 : Nat → Int32 → Int32 → Int32 → Int32 → Int32 → Int32 → kf_St → Option (Int32 × kf_St)) (v0 : Nat) (v1 : Int32) (v2 : Int32) (v5 : Int32) (v6 : Int32) (v7 : Int32) (σ : kf_St) : Option (Int32 × kf_St) :=
  kf_lt (((10 * v5) + v6)) fun v3_1 =>
  f_X11_closestTwo_63 rec10 rec22 v0 v1 v2 v3_1 v7 v5 v6 σ
set_option maxRecDepth 100000 in
set_option maxHeartbeats 4000000 in
theorem b_X11_closestTwo_50 {X : kf_X} {G : kf_G} {rec10 : Nat → Int32 → Int32 → Int32 → Int32 → Int32 → kf_St → Option (Int32 × kf_St)} {rec22 : Nat → Int32 → Int32 → Int32 → Int32 → Int32 → Int32 → kf_St → Option (Int32 × kf_St)} {q : (Int32 × kf_St)} (E : kf_ok X G cX11_closestTwo RX11 8 (some .int) (2)) (hty : kf_wt G) (hrec10 : ∀ (v0 : Nat) (v1 : Int32) (v2 : Int32) (v3 : Int32) (v4 : Int32) (v5 : Int32) (k_v0 : kf_kd G v0 = 50) (σ : kf_St), rec10 v0 v1 v2 v3 v4 v5 σ = some q → kf_WA X G 8 (kf_Q X G (some (.int q.1)) q.2) 10 [(0, .ref (kf_ad G v0)), (1, .int v1), (2, .int v2), (3, .int v3), (4, .int v4), (5, .int v5)] [] σ) (hrec22 : ∀ (v0 : Nat) (v1 : Int32) (v2 : Int32) (v3 : Int32) (v4 : Int32) (v5 : Int32) (v6 : Int32) (k_v0 : kf_kd G v0 = 50) (σ : kf_St), rec22 v0 v1 v2 v3 v4 v5 v6 σ = some q → kf_WA X G 8 (kf_Q X G (some (.int q.1)) q.2) 22 [(0, .ref (kf_ad G v0)), (1, .int v1), (2, .int v2), (3, .int v3), (4, .int v4), (5, .int v5), (6, .int v6)] [] σ) (v0 : Nat) (v1 : Int32) (v2 : Int32) (v5 : Int32) (v6 : Int32) (v7 : Int32) (k_v0 : kf_kd G v0 = 50) (σ : kf_St) (h : f_X11_closestTwo_50 rec10 rec22 v0 v1 v2 v5 v6 v7 σ = some q) : kf_WA X G 8 (kf_Q X G (some (.int q.1)) q.2) 50 [(0, .ref (kf_ad G v0)), (1, .int v1), (2, .int v2), (5, .int v5), (6, .int v6), (7, .int v7)] [] σ := by
  unfold f_X11_closestTwo_50 at h
  refine wa_bipush 10 bp_10 E d_X11_closestTwo_50 ?_
  refine wa_iload 3 rfl E d_X11_closestTwo_52 ?_
  refine wa_imul E d_X11_closestTwo_54 ?_
  refine wa_iload 4 rfl E d_X11_closestTwo_55 ?_
  refine wa_iadd E d_X11_closestTwo_57 ?_
  obtain ⟨v3_1, ev3_1, h⟩ := kf_lte h
  refine wa_topi ev3_1 ?_
  refine wa_istore_n (lv' := [(3, .int v3_1), (0, .ref (kf_ad G v0)), (1, .int v1), (2, .int v2), (5, .int v5), (6, .int v6), (7, .int v7)]) rfl (by decide) rfl E d_X11_closestTwo_58 ?_
  refine wa_iload 6 rfl E d_X11_closestTwo_59 ?_
  refine wa_istore (lv' := [(4, .int v7), (3, .int v3_1), (0, .ref (kf_ad G v0)), (1, .int v1), (2, .int v2), (5, .int v5), (6, .int v6), (7, .int v7)]) (by decide) rfl E d_X11_closestTwo_61 ?_
  refine wa_sub [2, 3, 4, 1, 0, 5, 6] rfl ?_
  exact b_X11_closestTwo_63 E hty hrec10 hrec22 v0 v1 v2 v3_1 v7 v5 v6 k_v0 σ h
def f_X11_closestTwo_22_s (rec10 : Nat → Int32 → Int32 → Int32 → Int32 → Int32 → kf_St → Option (Int32 × kf_St)) (rec22 : Nat → Int32 → Int32 → Int32 → Int32 → Int32 → Int32 → kf_St → Option (Int32 × kf_St)) (v0 : Nat) (v1 : Int32) (v2 : Int32) (v3 : Int32) (v4 : Int32) (v5 : Int32) (v6 : Int32) (σ : kf_St) : Option (Int32 × kf_St) :=
  if v1 ≤ v6 then
    kf_lt (v5 + 1) fun v5_2 =>
    rec10 v0 v1 v2 v3 v4 v5_2 σ
  else
    (f_X10_difference v0 v5 v0 v6 σ).bind fun q_3 =>
    if v3 < 0 then
      f_X11_closestTwo_50 rec10 rec22 v0 v1 v2 v5 v6 q_3.1 q_3.2
    else
      if v4 ≤ q_3.1 then
        f_X11_closestTwo_63 rec10 rec22 v0 v1 v2 v3 v4 v5 v6 q_3.2
      else
        f_X11_closestTwo_50 rec10 rec22 v0 v1 v2 v5 v6 q_3.1 q_3.2
def f_X11_closestTwo_22 (rec10 : Nat → Int32 → Int32 → Int32 → Int32 → Int32 → kf_St → Option (Int32 × kf_St)) : Nat → Nat → Int32 → Int32 → Int32 → Int32 → Int32 → Int32 → kf_St → Option (Int32 × kf_St)
  | 0, _, _, _, _, _, _, _, _ => none
  | n + 1, v0, v1, v2, v3, v4, v5, v6, σ => f_X11_closestTwo_22_s rec10 (f_X11_closestTwo_22 rec10 n) v0 v1 v2 v3 v4 v5 v6 σ
set_option maxRecDepth 100000 in
set_option maxHeartbeats 4000000 in
theorem b_X11_closestTwo_22_s {X : kf_X} {G : kf_G} {rec10 : Nat → Int32 → Int32 → Int32 → Int32 → Int32 → kf_St → Option (Int32 × kf_St)} (rec22 : Nat → Int32 → Int32 → Int32 → Int32 → Int32 → Int32 → kf_St → Option (Int32 × kf_St)) {q : (Int32 × kf_St)} (E : kf_ok X G cX11_closestTwo RX11 8 (some .int) (2)) (hty : kf_wt G) (hrec10 : ∀ (v0 : Nat) (v1 : Int32) (v2 : Int32) (v3 : Int32) (v4 : Int32) (v5 : Int32) (k_v0 : kf_kd G v0 = 50) (σ : kf_St), rec10 v0 v1 v2 v3 v4 v5 σ = some q → kf_WA X G 8 (kf_Q X G (some (.int q.1)) q.2) 10 [(0, .ref (kf_ad G v0)), (1, .int v1), (2, .int v2), (3, .int v3), (4, .int v4), (5, .int v5)] [] σ) (hrec22 : ∀ (v0 : Nat) (v1 : Int32) (v2 : Int32) (v3 : Int32) (v4 : Int32) (v5 : Int32) (v6 : Int32) (k_v0 : kf_kd G v0 = 50) (σ : kf_St), rec22 v0 v1 v2 v3 v4 v5 v6 σ = some q → kf_WA X G 8 (kf_Q X G (some (.int q.1)) q.2) 22 [(0, .ref (kf_ad G v0)), (1, .int v1), (2, .int v2), (3, .int v3), (4, .int v4), (5, .int v5), (6, .int v6)] [] σ) (v0 : Nat) (v1 : Int32) (v2 : Int32) (v3 : Int32) (v4 : Int32) (v5 : Int32) (v6 : Int32) (k_v0 : kf_kd G v0 = 50) (σ : kf_St) (h : f_X11_closestTwo_22_s rec10 rec22 v0 v1 v2 v3 v4 v5 v6 σ = some q) : kf_WA X G 8 (kf_Q X G (some (.int q.1)) q.2) 22 [(0, .ref (kf_ad G v0)), (1, .int v1), (2, .int v2), (3, .int v3), (4, .int v4), (5, .int v5), (6, .int v6)] [] σ := by
  unfold f_X11_closestTwo_22_s at h
  refine wa_iload 6 rfl E d_X11_closestTwo_22 ?_
  refine wa_iload_n 1 rfl E d_X11_closestTwo_24 ?_
  refine wa_icmp_ge E d_X11_closestTwo_25 (fun c_1 => ?_) (fun c_1 => ?_)
  · replace h := kf_ift c_1 h
    obtain ⟨v5_2, ev5_2, h⟩ := kf_lte h
    refine wa_iinc (lv' := [(5, .int v5_2), (0, .ref (kf_ad G v0)), (1, .int v1), (2, .int v2), (3, .int v3), (4, .int v4), (6, .int v6)]) v5_2 5 rfl (kf_inc ic_1 ev5_2) (by decide) rfl E d_X11_closestTwo_69 ?_
    refine wa_goto E d_X11_closestTwo_72 ?_
    refine wa_sub [1, 2, 3, 4, 5, 0] rfl ?_
    exact hrec10 v0 v1 v2 v3 v4 v5_2 k_v0 σ h
  · replace h := kf_iff c_1 h
    refine wa_aload_n 0 rfl E d_X11_closestTwo_28 ?_
    refine wa_iload 5 rfl E d_X11_closestTwo_29 ?_
    refine wa_aload_n 0 rfl E d_X11_closestTwo_31 ?_
    refine wa_iload 6 rfl E d_X11_closestTwo_32 ?_
    obtain ⟨q_3, hq_3, h⟩ := kf_bd h
    refine wa_callS (st2 := [.int q_3.1]) (c_X10_difference hty v0 v5 v0 v6 k_v0 k_v0 σ hq_3) mt_X10_difference ml_X11_288 rfl (Nat.le_of_ble_eq_true rfl) rfl (Nat.le_of_ble_eq_true rfl) E d_X11_closestTwo_34 rfl ?_
    refine wa_istore (lv' := [(7, .int q_3.1), (0, .ref (kf_ad G v0)), (1, .int v1), (2, .int v2), (3, .int v3), (4, .int v4), (5, .int v5), (6, .int v6)]) (by decide) rfl E d_X11_closestTwo_37 ?_
    refine wa_iload_n 4 rfl E d_X11_closestTwo_39 ?_
    refine wa_if_lt E d_X11_closestTwo_40 (fun c_4 => ?_) (fun c_4 => ?_)
    · replace h := kf_ift c_4 h
      refine wa_sub [1, 2, 3, 6, 7, 0] rfl ?_
      exact b_X11_closestTwo_50 E hty hrec10 hrec22 v0 v1 v2 v5 v6 q_3.1 k_v0 q_3.2 h
    · replace h := kf_iff c_4 h
      refine wa_iload 0 rfl E d_X11_closestTwo_43 ?_
      refine wa_iload 5 rfl E d_X11_closestTwo_45 ?_
      refine wa_icmp_ge E d_X11_closestTwo_47 (fun c_5 => ?_) (fun c_5 => ?_)
      · replace h := kf_ift c_5 h
        refine wa_sub [1, 2, 3, 4, 5, 6, 7] rfl ?_
        exact b_X11_closestTwo_63 E hty hrec10 hrec22 v0 v1 v2 v3 v4 v5 v6 k_v0 q_3.2 h
      · replace h := kf_iff c_5 h
        refine wa_sub [1, 2, 3, 6, 7, 0] rfl ?_
        exact b_X11_closestTwo_50 E hty hrec10 hrec22 v0 v1 v2 v5 v6 q_3.1 k_v0 q_3.2 h
theorem b_X11_closestTwo_22 {X : kf_X} {G : kf_G} {rec10 : Nat → Int32 → Int32 → Int32 → Int32 → Int32 → kf_St → Option (Int32 × kf_St)} {q : (Int32 × kf_St)} (E : kf_ok X G cX11_closestTwo RX11 8 (some .int) (2)) (hty : kf_wt G) (hrec10 : ∀ (v0 : Nat) (v1 : Int32) (v2 : Int32) (v3 : Int32) (v4 : Int32) (v5 : Int32) (k_v0 : kf_kd G v0 = 50) (σ : kf_St), rec10 v0 v1 v2 v3 v4 v5 σ = some q → kf_WA X G 8 (kf_Q X G (some (.int q.1)) q.2) 10 [(0, .ref (kf_ad G v0)), (1, .int v1), (2, .int v2), (3, .int v3), (4, .int v4), (5, .int v5)] [] σ) : ∀ (N : Nat) (v0 : Nat) (v1 : Int32) (v2 : Int32) (v3 : Int32) (v4 : Int32) (v5 : Int32) (v6 : Int32) (k_v0 : kf_kd G v0 = 50) (σ : kf_St) (_ : f_X11_closestTwo_22 rec10 N v0 v1 v2 v3 v4 v5 v6 σ = some q), kf_WA X G 8 (kf_Q X G (some (.int q.1)) q.2) 22 [(0, .ref (kf_ad G v0)), (1, .int v1), (2, .int v2), (3, .int v3), (4, .int v4), (5, .int v5), (6, .int v6)] [] σ
  | 0, _, _, _, _, _, _, _, _, _, h => by cases h
  | N + 1, v0, v1, v2, v3, v4, v5, v6, k_v0, σ, h => b_X11_closestTwo_22_s _ E hty hrec10 (b_X11_closestTwo_22 E hty hrec10 N) v0 v1 v2 v3 v4 v5 v6 k_v0 σ h
def f_X11_closestTwo_10_s (rec10 : Nat → Int32 → Int32 → Int32 → Int32 → Int32 → kf_St → Option (Int32 × kf_St)) (v0 : Nat) (v1 : Int32) (v2 : Int32) (v3 : Int32) (v4 : Int32) (v5 : Int32) (σ : kf_St) : Option (Int32 × kf_St) :=
  if v1 ≤ v5 then
    if v2 = 0 then
      some (v3, σ)
    else
      some (v4, σ)
  else
    kf_lt ((v5 + 1)) fun v6_3 =>
    f_X11_closestTwo_22 rec10 kf_F v0 v1 v2 v3 v4 v5 v6_3 σ
def f_X11_closestTwo_10 : Nat → Nat → Int32 → Int32 → Int32 → Int32 → Int32 → kf_St → Option (Int32 × kf_St)
  | 0, _, _, _, _, _, _, _ => none
  | n + 1, v0, v1, v2, v3, v4, v5, σ => f_X11_closestTwo_10_s (f_X11_closestTwo_10 n) v0 v1 v2 v3 v4 v5 σ
set_option maxRecDepth 100000 in
set_option maxHeartbeats 4000000 in
theorem b_X11_closestTwo_10_s {X : kf_X} {G : kf_G} (rec10 : Nat → Int32 → Int32 → Int32 → Int32 → Int32 → kf_St → Option (Int32 × kf_St)) {q : (Int32 × kf_St)} (E : kf_ok X G cX11_closestTwo RX11 8 (some .int) (2)) (hty : kf_wt G) (hrec10 : ∀ (v0 : Nat) (v1 : Int32) (v2 : Int32) (v3 : Int32) (v4 : Int32) (v5 : Int32) (k_v0 : kf_kd G v0 = 50) (σ : kf_St), rec10 v0 v1 v2 v3 v4 v5 σ = some q → kf_WA X G 8 (kf_Q X G (some (.int q.1)) q.2) 10 [(0, .ref (kf_ad G v0)), (1, .int v1), (2, .int v2), (3, .int v3), (4, .int v4), (5, .int v5)] [] σ) (v0 : Nat) (v1 : Int32) (v2 : Int32) (v3 : Int32) (v4 : Int32) (v5 : Int32) (k_v0 : kf_kd G v0 = 50) (σ : kf_St) (h : f_X11_closestTwo_10_s rec10 v0 v1 v2 v3 v4 v5 σ = some q) : kf_WA X G 8 (kf_Q X G (some (.int q.1)) q.2) 10 [(0, .ref (kf_ad G v0)), (1, .int v1), (2, .int v2), (3, .int v3), (4, .int v4), (5, .int v5)] [] σ := by
  unfold f_X11_closestTwo_10_s at h
  refine wa_iload 5 rfl E d_X11_closestTwo_10 ?_
  refine wa_iload_n 1 rfl E d_X11_closestTwo_12 ?_
  refine wa_icmp_ge E d_X11_closestTwo_13 (fun c_1 => ?_) (fun c_1 => ?_)
  · replace h := kf_ift c_1 h
    refine wa_iload_n 2 rfl E d_X11_closestTwo_75 ?_
    refine wa_if_ne E d_X11_closestTwo_76 (fun c_2 => ?_) (fun c_2 => ?_)
    · replace h := kf_iff c_2 h
      refine wa_iload 4 rfl E d_X11_closestTwo_83 ?_
      cases h
      exact wa_iret E d_X11_closestTwo_85
    · replace h := kf_ift c_2 h
      refine wa_iload_n 3 rfl E d_X11_closestTwo_79 ?_
      refine wa_goto E d_X11_closestTwo_80 ?_
      cases h
      exact wa_iret E d_X11_closestTwo_85
  · replace h := kf_iff c_1 h
    refine wa_iload 5 rfl E d_X11_closestTwo_16 ?_
    refine wa_iconst 1 ic_1 E d_X11_closestTwo_18 ?_
    refine wa_iadd E d_X11_closestTwo_19 ?_
    obtain ⟨v6_3, ev6_3, h⟩ := kf_lte h
    refine wa_topi ev6_3 ?_
    refine wa_istore (lv' := [(6, .int v6_3), (0, .ref (kf_ad G v0)), (1, .int v1), (2, .int v2), (3, .int v3), (4, .int v4), (5, .int v5)]) (by decide) rfl E d_X11_closestTwo_20 ?_
    refine wa_sub [1, 2, 3, 4, 5, 6, 0] rfl ?_
    exact b_X11_closestTwo_22 E hty hrec10 kf_F v0 v1 v2 v3 v4 v5 v6_3 k_v0 σ h
theorem b_X11_closestTwo_10 {X : kf_X} {G : kf_G} {q : (Int32 × kf_St)} (E : kf_ok X G cX11_closestTwo RX11 8 (some .int) (2)) (hty : kf_wt G) : ∀ (N : Nat) (v0 : Nat) (v1 : Int32) (v2 : Int32) (v3 : Int32) (v4 : Int32) (v5 : Int32) (k_v0 : kf_kd G v0 = 50) (σ : kf_St) (_ : f_X11_closestTwo_10 N v0 v1 v2 v3 v4 v5 σ = some q), kf_WA X G 8 (kf_Q X G (some (.int q.1)) q.2) 10 [(0, .ref (kf_ad G v0)), (1, .int v1), (2, .int v2), (3, .int v3), (4, .int v4), (5, .int v5)] [] σ
  | 0, _, _, _, _, _, _, _, _, h => by cases h
  | N + 1, v0, v1, v2, v3, v4, v5, k_v0, σ, h => b_X11_closestTwo_10_s _ E hty (b_X11_closestTwo_10 E hty N) v0 v1 v2 v3 v4 v5 k_v0 σ h
def f_X11_closestTwo (v0 : Nat) (v1 : Int32) (v2 : Int32) (σ : kf_St) : Option (Int32 × kf_St) :=
  f_X11_closestTwo_10 kf_F v0 v1 v2 (-2) (-2) 0 σ
set_option maxRecDepth 100000 in
set_option maxHeartbeats 4000000 in
theorem c_X11_closestTwo {G : kf_G} (hty : kf_wt G) (v0 : Nat) (v1 : Int32) (v2 : Int32) (k_v0 : kf_kd G v0 = 50) (σ : kf_St) {q : (Int32 × kf_St)} (h : f_X11_closestTwo v0 v1 v2 σ = some q) : kf_Ct (2) yX11_closestTwo cX11_closestTwo 8 (some .int) G [.ref (kf_ad G v0), .int v1, .int v2] σ (some (.int q.1)) q.2 := by
  refine kf_Ct.of hty.1 (lv := [(0, .ref (kf_ad G v0)), (1, .int v1), (2, .int v2)]) (by decide +kernel) rfl (Nat.le_of_ble_eq_true rfl) (fun X E => ?_)
  unfold f_X11_closestTwo at h
  refine wa_bipush (-2) bp_m2 E d_X11_closestTwo_0 ?_
  refine wa_istore_n (lv' := [(3, .int (-2)), (0, .ref (kf_ad G v0)), (1, .int v1), (2, .int v2)]) rfl (by decide) rfl E d_X11_closestTwo_2 ?_
  refine wa_bipush (-2) bp_m2 E d_X11_closestTwo_3 ?_
  refine wa_istore (lv' := [(4, .int (-2)), (3, .int (-2)), (0, .ref (kf_ad G v0)), (1, .int v1), (2, .int v2)]) (by decide) rfl E d_X11_closestTwo_5 ?_
  refine wa_iconst 0 ic_0 E d_X11_closestTwo_7 ?_
  refine wa_istore (lv' := [(5, .int 0), (4, .int (-2)), (3, .int (-2)), (0, .ref (kf_ad G v0)), (1, .int v1), (2, .int v2)]) (by decide) rfl E d_X11_closestTwo_8 ?_
  refine wa_sub [3, 4, 5, 2, 1, 0] rfl ?_
  exact b_X11_closestTwo_10 E hty kf_F v0 v1 v2 (-2) (-2) 0 k_v0 σ h
/-! X11_twins -/
theorem d_X11_twins_0 : kf_dq cX11_twins 0 1 1 (.iload_n 1) := ⟨by decide +kernel, rfl⟩
theorem d_X11_twins_1 : kf_dq cX11_twins 1 4 3 (.invokestatic 238) := ⟨by decide +kernel, rfl⟩
theorem d_X11_twins_4 : kf_dj cX11_twins 4 7 9 (.ifCond .ne) := ⟨5, by decide +kernel, rfl, by decide⟩
theorem d_X11_twins_7 : kf_dq cX11_twins 7 8 1 (.iconst (-1)) := ⟨by decide +kernel, rfl⟩
theorem d_X11_twins_8 : kf_dq cX11_twins 8 9 1 (.ireturn) := ⟨by decide +kernel, rfl⟩
theorem d_X11_twins_9 : kf_dq cX11_twins 9 10 1 (.aload_n 0) := ⟨by decide +kernel, rfl⟩
theorem d_X11_twins_10 : kf_dq cX11_twins 10 13 3 (.getfield 38) := ⟨by decide +kernel, rfl⟩
theorem d_X11_twins_13 : kf_dq cX11_twins 13 16 3 (.invokevirtual 252) := ⟨by decide +kernel, rfl⟩
theorem d_X11_twins_16 : kf_dq cX11_twins 16 17 1 (.aload_n 0) := ⟨by decide +kernel, rfl⟩
theorem d_X11_twins_17 : kf_dq cX11_twins 17 20 3 (.getfield 19) := ⟨by decide +kernel, rfl⟩
theorem d_X11_twins_20 : kf_dq cX11_twins 20 23 3 (.getfield 256) := ⟨by decide +kernel, rfl⟩
theorem d_X11_twins_23 : kf_dq cX11_twins 23 24 1 (.iload_n 1) := ⟨by decide +kernel, rfl⟩
theorem d_X11_twins_24 : kf_dq cX11_twins 24 27 3 (.invokestatic 259) := ⟨by decide +kernel, rfl⟩
theorem d_X11_twins_27 : kf_dq cX11_twins 27 28 1 (.ireturn) := ⟨by decide +kernel, rfl⟩
def f_X11_twins (v0 : Nat) (v1 : Int32) (σ : kf_St) : Option (Int32 × kf_St) :=
  (f_X11_isPick v1 σ).bind fun q_1 =>
  if q_1.1 = 0 then
    some ((-1), q_1.2)
  else
    (f_X7_facesInRow (kf_rf v0 4) q_1.2).bind fun q_3 =>
    (f_X11_closestTwo (kf_rf (kf_rf v0 4) 4) (q_3.1 (kf_rf v0 1) 0) v1 q_3).bind fun q_4 =>
    some (q_4.1, q_4.2)
set_option maxRecDepth 100000 in
set_option maxHeartbeats 4000000 in
theorem c_X11_twins {G : kf_G} (hty : kf_wt G) (v0 : Nat) (v1 : Int32) (k_v0 : kf_kd G v0 = 12) (σ : kf_St) {q : (Int32 × kf_St)} (h : f_X11_twins v0 v1 σ = some q) : kf_Ct (3) yX11_twins cX11_twins 2 (some .int) G [.ref (kf_ad G v0), .int v1] σ (some (.int q.1)) q.2 := by
  refine kf_Ct.of hty.1 (lv := [(0, .ref (kf_ad G v0)), (1, .int v1)]) (by decide +kernel) rfl (Nat.le_of_ble_eq_true rfl) (fun X E => ?_)
  unfold f_X11_twins at h
  refine wa_iload_n 1 rfl E d_X11_twins_0 ?_
  obtain ⟨q_1, hq_1, h⟩ := kf_bd h
  refine wa_callS (st2 := [.int q_1.1]) (c_X11_isPick hty v1 σ hq_1) mt_X11_isPick ml_X11_238 rfl (Nat.le_of_ble_eq_true rfl) rfl (Nat.le_of_ble_eq_true rfl) E d_X11_twins_1 rfl ?_
  refine wa_if_ne E d_X11_twins_4 (fun c_2 => ?_) (fun c_2 => ?_)
  · replace h := kf_iff c_2 h
    refine wa_aload_n 0 rfl E d_X11_twins_9 ?_
    refine wa_getR fl_X11_38 k_v0 rfl E d_X11_twins_10 ?_
    obtain ⟨q_3, hq_3, h⟩ := kf_bd h
    refine wa_callV (st2 := [.ref (kf_ad G (kf_rf (kf_rf v0 4) 4))]) (c_X7_facesInRow hty (kf_rf v0 4) (kf_wtf hty 4 7 k_v0 (by decide) rfl) q_1.2 hq_3) mv_X7_facesInRow ml_X11_252 (kf_wtf hty 4 7 k_v0 (by decide) rfl) rfl (Nat.le_of_ble_eq_true rfl) rfl (Nat.le_of_ble_eq_true rfl) E d_X11_twins_13 rfl ?_
    refine wa_aload_n 0 rfl E d_X11_twins_16 ?_
    refine wa_getR fl_X11_19 k_v0 rfl E d_X11_twins_17 ?_
    refine wa_getI fl_X11_256 (kf_wtf hty 1 10 k_v0 (by decide) rfl) rfl E d_X11_twins_20 ?_
    refine wa_iload_n 1 rfl E d_X11_twins_23 ?_
    obtain ⟨q_4, hq_4, h⟩ := kf_bd h
    refine wa_callS (st2 := [.int q_4.1]) (c_X11_closestTwo hty (kf_rf (kf_rf v0 4) 4) (q_3.1 (kf_rf v0 1) 0) v1 (kf_wtf hty 4 49 (kf_wtf hty 4 7 k_v0 (by decide) rfl) (by decide) rfl) q_3 hq_4) mt_X11_closestTwo ml_X11_259 rfl (Nat.le_of_ble_eq_true rfl) rfl (Nat.le_of_ble_eq_true rfl) E d_X11_twins_24 rfl ?_
    cases h
    exact wa_iret E d_X11_twins_27
  · replace h := kf_ift c_2 h
    refine wa_iconst (-1) ic_m1 E d_X11_twins_7 ?_
    cases h
    exact wa_iret E d_X11_twins_8
/-! X11_paired -/
theorem d_X11_paired_0 : kf_dq cX11_paired 0 1 1 (.iload_n 1) := ⟨by decide +kernel, rfl⟩
theorem d_X11_paired_1 : kf_dq cX11_paired 1 2 1 (.iconst (-1)) := ⟨by decide +kernel, rfl⟩
theorem d_X11_paired_2 : kf_dj cX11_paired 2 5 18 (.if_icmp .eq) := ⟨16, by decide +kernel, rfl, by decide⟩
theorem d_X11_paired_5 : kf_dq cX11_paired 5 6 1 (.aload_n 0) := ⟨by decide +kernel, rfl⟩
theorem d_X11_paired_6 : kf_dq cX11_paired 6 9 3 (.getfield 19) := ⟨by decide +kernel, rfl⟩
theorem d_X11_paired_9 : kf_dq cX11_paired 9 10 1 (.iload_n 1) := ⟨by decide +kernel, rfl⟩
theorem d_X11_paired_10 : kf_dq cX11_paired 10 13 3 (.invokevirtual 116) := ⟨by decide +kernel, rfl⟩
theorem d_X11_paired_13 : kf_dj cX11_paired 13 16 18 (.ifCond .ne) := ⟨5, by decide +kernel, rfl, by decide⟩
theorem d_X11_paired_16 : kf_dq cX11_paired 16 17 1 (.iconst (-1)) := ⟨by decide +kernel, rfl⟩
theorem d_X11_paired_17 : kf_dq cX11_paired 17 18 1 (.ireturn) := ⟨by decide +kernel, rfl⟩
theorem d_X11_paired_18 : kf_dq cX11_paired 18 19 1 (.aload_n 0) := ⟨by decide +kernel, rfl⟩
theorem d_X11_paired_19 : kf_dq cX11_paired 19 22 3 (.getfield 72) := ⟨by decide +kernel, rfl⟩
theorem d_X11_paired_22 : kf_dq cX11_paired 22 25 3 (.invokevirtual 263) := ⟨by decide +kernel, rfl⟩
theorem d_X11_paired_25 : kf_dq cX11_paired 25 26 1 (.iload_n 1) := ⟨by decide +kernel, rfl⟩
theorem d_X11_paired_26 : kf_dq cX11_paired 26 27 1 (.iconst (-1)) := ⟨by decide +kernel, rfl⟩
theorem d_X11_paired_27 : kf_dj cX11_paired 27 30 40 (.if_icmp .ne) := ⟨13, by decide +kernel, rfl, by decide⟩
theorem d_X11_paired_30 : kf_dq cX11_paired 30 31 1 (.aload_n 0) := ⟨by decide +kernel, rfl⟩
theorem d_X11_paired_31 : kf_dq cX11_paired 31 34 3 (.getfield 72) := ⟨by decide +kernel, rfl⟩
theorem d_X11_paired_34 : kf_dq cX11_paired 34 37 3 (.invokevirtual 266) := ⟨by decide +kernel, rfl⟩
theorem d_X11_paired_37 : kf_dj cX11_paired 37 40 48 .goto := ⟨11, by decide +kernel, rfl, by decide⟩
theorem d_X11_paired_40 : kf_dq cX11_paired 40 41 1 (.aload_n 0) := ⟨by decide +kernel, rfl⟩
theorem d_X11_paired_41 : kf_dq cX11_paired 41 44 3 (.getfield 72) := ⟨by decide +kernel, rfl⟩
theorem d_X11_paired_44 : kf_dq cX11_paired 44 45 1 (.iload_n 1) := ⟨by decide +kernel, rfl⟩
theorem d_X11_paired_45 : kf_dq cX11_paired 45 48 3 (.invokevirtual 270) := ⟨by decide +kernel, rfl⟩
theorem d_X11_paired_48 : kf_dq cX11_paired 48 49 1 (.ireturn) := ⟨by decide +kernel, rfl⟩
def f_X11_paired_18 (v0 : Nat) (v1 : Int32) (σ : kf_St) : Option (Int32 × kf_St) :=
  (f_X5_findBest (kf_rf v0 8) σ).bind fun q_1 =>
  if v1 = (-1) then
    (f_X5_leastSum (kf_rf v0 8) q_1).bind fun q_4 =>
    some (q_4.1, q_4.2)
  else
    (f_X5_partnerOf (kf_rf v0 8) v1 q_1).bind fun q_3 =>
    some (q_3.1, q_3.2)
set_option maxRecDepth 100000 in
set_option maxHeartbeats 4000000 in
theorem b_X11_paired_18 {X : kf_X} {G : kf_G} {q : (Int32 × kf_St)} (E : kf_ok X G cX11_paired RX11 2 (some .int) (6)) (hty : kf_wt G) (v0 : Nat) (v1 : Int32) (k_v0 : kf_kd G v0 = 12) (σ : kf_St) (h : f_X11_paired_18 v0 v1 σ = some q) : kf_WA X G 2 (kf_Q X G (some (.int q.1)) q.2) 18 [(0, .ref (kf_ad G v0)), (1, .int v1)] [] σ := by
  unfold f_X11_paired_18 at h
  refine wa_aload_n 0 rfl E d_X11_paired_18 ?_
  refine wa_getR fl_X11_72 k_v0 rfl E d_X11_paired_19 ?_
  obtain ⟨q_1, hq_1, h⟩ := kf_bd h
  refine wa_callV (st2 := []) (c_X5_findBest hty (kf_rf v0 8) (kf_wtf hty 8 5 k_v0 (by decide) rfl) σ hq_1) mv_X5_findBest ml_X11_263 (kf_wtf hty 8 5 k_v0 (by decide) rfl) rfl (Nat.le_of_ble_eq_true rfl) rfl (Nat.le_of_ble_eq_true rfl) E d_X11_paired_22 rfl ?_
  refine wa_iload_n 1 rfl E d_X11_paired_25 ?_
  refine wa_iconst (-1) ic_m1 E d_X11_paired_26 ?_
  refine wa_icmp_ne E d_X11_paired_27 (fun c_2 => ?_) (fun c_2 => ?_)
  · replace h := kf_iff c_2 h
    refine wa_aload_n 0 rfl E d_X11_paired_40 ?_
    refine wa_getR fl_X11_72 k_v0 rfl E d_X11_paired_41 ?_
    refine wa_iload_n 1 rfl E d_X11_paired_44 ?_
    obtain ⟨q_3, hq_3, h⟩ := kf_bd h
    refine wa_callV (st2 := [.int q_3.1]) (c_X5_partnerOf hty (kf_rf v0 8) v1 (kf_wtf hty 8 5 k_v0 (by decide) rfl) q_1 hq_3) mv_X5_partnerOf ml_X11_270 (kf_wtf hty 8 5 k_v0 (by decide) rfl) rfl (Nat.le_of_ble_eq_true rfl) rfl (Nat.le_of_ble_eq_true rfl) E d_X11_paired_45 rfl ?_
    cases h
    exact wa_iret E d_X11_paired_48
  · replace h := kf_ift c_2 h
    refine wa_aload_n 0 rfl E d_X11_paired_30 ?_
    refine wa_getR fl_X11_72 k_v0 rfl E d_X11_paired_31 ?_
    obtain ⟨q_4, hq_4, h⟩ := kf_bd h
    refine wa_callV (st2 := [.int q_4.1]) (c_X5_leastSum hty (kf_rf v0 8) (kf_wtf hty 8 5 k_v0 (by decide) rfl) q_1 hq_4) mv_X5_leastSum ml_X11_266 (kf_wtf hty 8 5 k_v0 (by decide) rfl) rfl (Nat.le_of_ble_eq_true rfl) rfl (Nat.le_of_ble_eq_true rfl) E d_X11_paired_34 rfl ?_
    refine wa_goto E d_X11_paired_37 ?_
    cases h
    exact wa_iret E d_X11_paired_48
def f_X11_paired (v0 : Nat) (v1 : Int32) (σ : kf_St) : Option (Int32 × kf_St) :=
  if v1 = (-1) then
    f_X11_paired_18 v0 v1 σ
  else
    (f_X10_hasDoor (kf_rf v0 1) v1 σ).bind fun q_2 =>
    if q_2.1 = 0 then
      some ((-1), q_2.2)
    else
      f_X11_paired_18 v0 v1 q_2.2
set_option maxRecDepth 100000 in
set_option maxHeartbeats 4000000 in
theorem c_X11_paired {G : kf_G} (hty : kf_wt G) (v0 : Nat) (v1 : Int32) (k_v0 : kf_kd G v0 = 12) (σ : kf_St) {q : (Int32 × kf_St)} (h : f_X11_paired v0 v1 σ = some q) : kf_Ct (6) yX11_paired cX11_paired 2 (some .int) G [.ref (kf_ad G v0), .int v1] σ (some (.int q.1)) q.2 := by
  refine kf_Ct.of hty.1 (lv := [(0, .ref (kf_ad G v0)), (1, .int v1)]) (by decide +kernel) rfl (Nat.le_of_ble_eq_true rfl) (fun X E => ?_)
  unfold f_X11_paired at h
  refine wa_iload_n 1 rfl E d_X11_paired_0 ?_
  refine wa_iconst (-1) ic_m1 E d_X11_paired_1 ?_
  refine wa_icmp_eq E d_X11_paired_2 (fun c_1 => ?_) (fun c_1 => ?_)
  · replace h := kf_ift c_1 h
    exact b_X11_paired_18 E hty v0 v1 k_v0 σ h
  · replace h := kf_iff c_1 h
    refine wa_aload_n 0 rfl E d_X11_paired_5 ?_
    refine wa_getR fl_X11_19 k_v0 rfl E d_X11_paired_6 ?_
    refine wa_iload_n 1 rfl E d_X11_paired_9 ?_
    obtain ⟨q_2, hq_2, h⟩ := kf_bd h
    refine wa_callV (st2 := [.int q_2.1]) (c_X10_hasDoor hty (kf_rf v0 1) v1 (kf_wtf hty 1 10 k_v0 (by decide) rfl) σ hq_2) mv_X10_hasDoor ml_X11_116 (kf_wtf hty 1 10 k_v0 (by decide) rfl) rfl (Nat.le_of_ble_eq_true rfl) rfl (Nat.le_of_ble_eq_true rfl) E d_X11_paired_10 rfl ?_
    refine wa_if_ne E d_X11_paired_13 (fun c_3 => ?_) (fun c_3 => ?_)
    · replace h := kf_iff c_3 h
      exact b_X11_paired_18 E hty v0 v1 k_v0 q_2.2 h
    · replace h := kf_ift c_3 h
      refine wa_iconst (-1) ic_m1 E d_X11_paired_16 ?_
      cases h
      exact wa_iret E d_X11_paired_17
/-! X11_changes -/
theorem d_X11_changes_0 : kf_dq cX11_changes 0 1 1 (.aload_n 0) := ⟨by decide +kernel, rfl⟩
theorem d_X11_changes_1 : kf_dq cX11_changes 1 4 3 (.getfield 19) := ⟨by decide +kernel, rfl⟩
theorem d_X11_changes_4 : kf_dq cX11_changes 4 5 1 (.iload_n 1) := ⟨by decide +kernel, rfl⟩
theorem d_X11_changes_5 : kf_dq cX11_changes 5 8 3 (.invokevirtual 116) := ⟨by decide +kernel, rfl⟩
theorem d_X11_changes_8 : kf_dj cX11_changes 8 11 13 (.ifCond .ne) := ⟨5, by decide +kernel, rfl, by decide⟩
theorem d_X11_changes_11 : kf_dq cX11_changes 11 12 1 (.iconst (-1)) := ⟨by decide +kernel, rfl⟩
theorem d_X11_changes_12 : kf_dq cX11_changes 12 13 1 (.ireturn) := ⟨by decide +kernel, rfl⟩
theorem d_X11_changes_13 : kf_dq cX11_changes 13 14 1 (.aload_n 0) := ⟨by decide +kernel, rfl⟩
theorem d_X11_changes_14 : kf_dq cX11_changes 14 17 3 (.getfield 63) := ⟨by decide +kernel, rfl⟩
theorem d_X11_changes_17 : kf_dq cX11_changes 17 18 1 (.iload_n 1) := ⟨by decide +kernel, rfl⟩
theorem d_X11_changes_18 : kf_dq cX11_changes 18 19 1 (.aload_n 0) := ⟨by decide +kernel, rfl⟩
theorem d_X11_changes_19 : kf_dq cX11_changes 19 22 3 (.getfield 19) := ⟨by decide +kernel, rfl⟩
theorem d_X11_changes_22 : kf_dq cX11_changes 22 23 1 (.aload_n 0) := ⟨by decide +kernel, rfl⟩
theorem d_X11_changes_23 : kf_dq cX11_changes 23 26 3 (.getfield 38) := ⟨by decide +kernel, rfl⟩
theorem d_X11_changes_26 : kf_dq cX11_changes 26 29 3 (.getfield 119) := ⟨by decide +kernel, rfl⟩
theorem d_X11_changes_29 : kf_dq cX11_changes 29 30 1 (.iload_n 1) := ⟨by decide +kernel, rfl⟩
theorem d_X11_changes_30 : kf_dq cX11_changes 30 31 1 (.aaload) := ⟨by decide +kernel, rfl⟩
theorem d_X11_changes_31 : kf_dq cX11_changes 31 34 3 (.getfield 123) := ⟨by decide +kernel, rfl⟩
theorem d_X11_changes_34 : kf_dq cX11_changes 34 37 3 (.invokevirtual 141) := ⟨by decide +kernel, rfl⟩
theorem d_X11_changes_37 : kf_dq cX11_changes 37 38 1 (.iconst 0) := ⟨by decide +kernel, rfl⟩
theorem d_X11_changes_38 : kf_dq cX11_changes 38 41 3 (.invokevirtual 273) := ⟨by decide +kernel, rfl⟩
theorem d_X11_changes_41 : kf_dq cX11_changes 41 42 1 (.ireturn) := ⟨by decide +kernel, rfl⟩
def f_X11_changes (v0 : Nat) (v1 : Int32) (σ : kf_St) : Option (Int32 × kf_St) :=
  (f_X10_hasDoor (kf_rf v0 1) v1 σ).bind fun q_1 =>
  if q_1.1 = 0 then
    some ((-1), q_1.2)
  else
    if kf_ix v1 (kf_ln (kf_rf (kf_rf v0 4) 0)) = true then
    (f_X10_knownBy (kf_rf v0 1) (kf_rf (kf_rf (kf_rf (kf_rf v0 4) 0) (Int32.toNatClampNeg v1)) 0) q_1.2).bind fun q_4 =>
    (f_X0_firstDay (kf_rf v0 7) v1 q_4.1 0 q_4.2).bind fun q_5 =>
    some (q_5.1, q_5.2)
    else none
set_option maxRecDepth 100000 in
set_option maxHeartbeats 4000000 in
theorem c_X11_changes {G : kf_G} (hty : kf_wt G) (v0 : Nat) (v1 : Int32) (k_v0 : kf_kd G v0 = 12) (σ : kf_St) {q : (Int32 × kf_St)} (h : f_X11_changes v0 v1 σ = some q) : kf_Ct (8) yX11_changes cX11_changes 2 (some .int) G [.ref (kf_ad G v0), .int v1] σ (some (.int q.1)) q.2 := by
  refine kf_Ct.of hty.1 (lv := [(0, .ref (kf_ad G v0)), (1, .int v1)]) (by decide +kernel) rfl (Nat.le_of_ble_eq_true rfl) (fun X E => ?_)
  unfold f_X11_changes at h
  refine wa_aload_n 0 rfl E d_X11_changes_0 ?_
  refine wa_getR fl_X11_19 k_v0 rfl E d_X11_changes_1 ?_
  refine wa_iload_n 1 rfl E d_X11_changes_4 ?_
  obtain ⟨q_1, hq_1, h⟩ := kf_bd h
  refine wa_callV (st2 := [.int q_1.1]) (c_X10_hasDoor hty (kf_rf v0 1) v1 (kf_wtf hty 1 10 k_v0 (by decide) rfl) σ hq_1) mv_X10_hasDoor ml_X11_116 (kf_wtf hty 1 10 k_v0 (by decide) rfl) rfl (Nat.le_of_ble_eq_true rfl) rfl (Nat.le_of_ble_eq_true rfl) E d_X11_changes_5 rfl ?_
  refine wa_if_ne E d_X11_changes_8 (fun c_2 => ?_) (fun c_2 => ?_)
  · replace h := kf_iff c_2 h
    refine wa_aload_n 0 rfl E d_X11_changes_13 ?_
    refine wa_getR fl_X11_63 k_v0 rfl E d_X11_changes_14 ?_
    refine wa_iload_n 1 rfl E d_X11_changes_17 ?_
    refine wa_aload_n 0 rfl E d_X11_changes_18 ?_
    refine wa_getR fl_X11_19 k_v0 rfl E d_X11_changes_19 ?_
    refine wa_aload_n 0 rfl E d_X11_changes_22 ?_
    refine wa_getR fl_X11_38 k_v0 rfl E d_X11_changes_23 ?_
    refine wa_getR fl_X11_119 (kf_wtf hty 4 7 k_v0 (by decide) rfl) rfl E d_X11_changes_26 ?_
    refine wa_iload_n 1 rfl E d_X11_changes_29 ?_
    obtain ⟨g_3, h⟩ := kf_gd h
    refine wa_aald (kf_wtf hty 0 53 (kf_wtf hty 4 7 k_v0 (by decide) rfl) (by decide) rfl) g_3 E d_X11_changes_30 ?_
    refine wa_getR fl_X11_123 (kf_wta hty (kf_wtf hty 0 53 (kf_wtf hty 4 7 k_v0 (by decide) rfl) (by decide) rfl) g_3) rfl E d_X11_changes_31 ?_
    obtain ⟨q_4, hq_4, h⟩ := kf_bd h
    refine wa_callV (st2 := [.int q_4.1, .int v1, .ref (kf_ad G (kf_rf v0 7))]) (c_X10_knownBy hty (kf_rf v0 1) (kf_rf (kf_rf (kf_rf (kf_rf v0 4) 0) (Int32.toNatClampNeg v1)) 0) (kf_wtf hty 1 10 k_v0 (by decide) rfl) (kf_wtf hty 0 49 (kf_wta hty (kf_wtf hty 0 53 (kf_wtf hty 4 7 k_v0 (by decide) rfl) (by decide) rfl) g_3) (by decide) rfl) q_1.2 hq_4) mv_X10_knownBy ml_X11_141 (kf_wtf hty 1 10 k_v0 (by decide) rfl) rfl (Nat.le_of_ble_eq_true rfl) rfl (Nat.le_of_ble_eq_true rfl) E d_X11_changes_34 rfl ?_
    refine wa_iconst 0 ic_0 E d_X11_changes_37 ?_
    obtain ⟨q_5, hq_5, h⟩ := kf_bd h
    refine wa_callV (st2 := [.int q_5.1]) (c_X0_firstDay hty (kf_rf v0 7) v1 q_4.1 0 (kf_wtf hty 7 0 k_v0 (by decide) rfl) q_4.2 hq_5) mv_X0_firstDay ml_X11_273 (kf_wtf hty 7 0 k_v0 (by decide) rfl) rfl (Nat.le_of_ble_eq_true rfl) rfl (Nat.le_of_ble_eq_true rfl) E d_X11_changes_38 rfl ?_
    cases h
    exact wa_iret E d_X11_changes_41
  · replace h := kf_ift c_2 h
    refine wa_iconst (-1) ic_m1 E d_X11_changes_11 ?_
    cases h
    exact wa_iret E d_X11_changes_12
/-! X11_rubs -/
theorem d_X11_rubs_0 : kf_dq cX11_rubs 0 1 1 (.aload_n 0) := ⟨by decide +kernel, rfl⟩
theorem d_X11_rubs_1 : kf_dq cX11_rubs 1 4 3 (.getfield 19) := ⟨by decide +kernel, rfl⟩
theorem d_X11_rubs_4 : kf_dq cX11_rubs 4 5 1 (.iload_n 1) := ⟨by decide +kernel, rfl⟩
theorem d_X11_rubs_5 : kf_dq cX11_rubs 5 8 3 (.invokevirtual 116) := ⟨by decide +kernel, rfl⟩
theorem d_X11_rubs_8 : kf_dj cX11_rubs 8 11 22 (.ifCond .eq) := ⟨14, by decide +kernel, rfl, by decide⟩
theorem d_X11_rubs_11 : kf_dq cX11_rubs 11 12 1 (.aload_n 0) := ⟨by decide +kernel, rfl⟩
theorem d_X11_rubs_12 : kf_dq cX11_rubs 12 15 3 (.getfield 63) := ⟨by decide +kernel, rfl⟩
theorem d_X11_rubs_15 : kf_dq cX11_rubs 15 16 1 (.iload_n 1) := ⟨by decide +kernel, rfl⟩
theorem d_X11_rubs_16 : kf_dq cX11_rubs 16 19 3 (.invokevirtual 277) := ⟨by decide +kernel, rfl⟩
theorem d_X11_rubs_19 : kf_dj cX11_rubs 19 22 23 .goto := ⟨4, by decide +kernel, rfl, by decide⟩
theorem d_X11_rubs_22 : kf_dq cX11_rubs 22 23 1 (.iconst (-1)) := ⟨by decide +kernel, rfl⟩
theorem d_X11_rubs_23 : kf_dq cX11_rubs 23 24 1 (.ireturn) := ⟨by decide +kernel, rfl⟩
def f_X11_rubs (v0 : Nat) (v1 : Int32) (σ : kf_St) : Option (Int32 × kf_St) :=
  (f_X10_hasDoor (kf_rf v0 1) v1 σ).bind fun q_1 =>
  if q_1.1 = 0 then
    some ((-1), q_1.2)
  else
    (f_X0_rubsToChange (kf_rf v0 7) v1 q_1.2).bind fun q_3 =>
    some (q_3.1, q_3.2)
set_option maxRecDepth 100000 in
set_option maxHeartbeats 4000000 in
theorem c_X11_rubs {G : kf_G} (hty : kf_wt G) (v0 : Nat) (v1 : Int32) (k_v0 : kf_kd G v0 = 12) (σ : kf_St) {q : (Int32 × kf_St)} (h : f_X11_rubs v0 v1 σ = some q) : kf_Ct (5) yX11_rubs cX11_rubs 2 (some .int) G [.ref (kf_ad G v0), .int v1] σ (some (.int q.1)) q.2 := by
  refine kf_Ct.of hty.1 (lv := [(0, .ref (kf_ad G v0)), (1, .int v1)]) (by decide +kernel) rfl (Nat.le_of_ble_eq_true rfl) (fun X E => ?_)
  unfold f_X11_rubs at h
  refine wa_aload_n 0 rfl E d_X11_rubs_0 ?_
  refine wa_getR fl_X11_19 k_v0 rfl E d_X11_rubs_1 ?_
  refine wa_iload_n 1 rfl E d_X11_rubs_4 ?_
  obtain ⟨q_1, hq_1, h⟩ := kf_bd h
  refine wa_callV (st2 := [.int q_1.1]) (c_X10_hasDoor hty (kf_rf v0 1) v1 (kf_wtf hty 1 10 k_v0 (by decide) rfl) σ hq_1) mv_X10_hasDoor ml_X11_116 (kf_wtf hty 1 10 k_v0 (by decide) rfl) rfl (Nat.le_of_ble_eq_true rfl) rfl (Nat.le_of_ble_eq_true rfl) E d_X11_rubs_5 rfl ?_
  refine wa_if_eq E d_X11_rubs_8 (fun c_2 => ?_) (fun c_2 => ?_)
  · replace h := kf_ift c_2 h
    refine wa_iconst (-1) ic_m1 E d_X11_rubs_22 ?_
    cases h
    exact wa_iret E d_X11_rubs_23
  · replace h := kf_iff c_2 h
    refine wa_aload_n 0 rfl E d_X11_rubs_11 ?_
    refine wa_getR fl_X11_63 k_v0 rfl E d_X11_rubs_12 ?_
    refine wa_iload_n 1 rfl E d_X11_rubs_15 ?_
    obtain ⟨q_3, hq_3, h⟩ := kf_bd h
    refine wa_callV (st2 := [.int q_3.1]) (c_X0_rubsToChange hty (kf_rf v0 7) v1 (kf_wtf hty 7 0 k_v0 (by decide) rfl) q_1.2 hq_3) mv_X0_rubsToChange ml_X11_277 (kf_wtf hty 7 0 k_v0 (by decide) rfl) rfl (Nat.le_of_ble_eq_true rfl) rfl (Nat.le_of_ble_eq_true rfl) E d_X11_rubs_16 rfl ?_
    refine wa_goto E d_X11_rubs_19 ?_
    cases h
    exact wa_iret E d_X11_rubs_23
/-! X11_when -/
theorem d_X11_when_0 : kf_dq cX11_when 0 1 1 (.aload_n 0) := ⟨by decide +kernel, rfl⟩
theorem d_X11_when_1 : kf_dq cX11_when 1 4 3 (.getfield 19) := ⟨by decide +kernel, rfl⟩
theorem d_X11_when_4 : kf_dq cX11_when 4 5 1 (.iload_n 1) := ⟨by decide +kernel, rfl⟩
theorem d_X11_when_5 : kf_dq cX11_when 5 6 1 (.iload_n 2) := ⟨by decide +kernel, rfl⟩
theorem d_X11_when_6 : kf_dq cX11_when 6 9 3 (.invokevirtual 187) := ⟨by decide +kernel, rfl⟩
theorem d_X11_when_9 : kf_dj cX11_when 9 12 25 (.ifCond .eq) := ⟨16, by decide +kernel, rfl, by decide⟩
theorem d_X11_when_12 : kf_dq cX11_when 12 13 1 (.aload_n 0) := ⟨by decide +kernel, rfl⟩
theorem d_X11_when_13 : kf_dq cX11_when 13 16 3 (.getfield 63) := ⟨by decide +kernel, rfl⟩
theorem d_X11_when_16 : kf_dq cX11_when 16 17 1 (.iload_n 1) := ⟨by decide +kernel, rfl⟩
theorem d_X11_when_17 : kf_dq cX11_when 17 18 1 (.iload_n 2) := ⟨by decide +kernel, rfl⟩
theorem d_X11_when_18 : kf_dq cX11_when 18 19 1 (.iconst 1) := ⟨by decide +kernel, rfl⟩
theorem d_X11_when_19 : kf_dq cX11_when 19 22 3 (.invokevirtual 273) := ⟨by decide +kernel, rfl⟩
theorem d_X11_when_22 : kf_dj cX11_when 22 25 26 .goto := ⟨4, by decide +kernel, rfl, by decide⟩
theorem d_X11_when_25 : kf_dq cX11_when 25 26 1 (.iconst (-1)) := ⟨by decide +kernel, rfl⟩
theorem d_X11_when_26 : kf_dq cX11_when 26 27 1 (.ireturn) := ⟨by decide +kernel, rfl⟩
def f_X11_when (v0 : Nat) (v1 : Int32) (v2 : Int32) (σ : kf_St) : Option (Int32 × kf_St) :=
  (f_X10_hasBoth (kf_rf v0 1) v1 v2 σ).bind fun q_1 =>
  if q_1.1 = 0 then
    some ((-1), q_1.2)
  else
    (f_X0_firstDay (kf_rf v0 7) v1 v2 1 q_1.2).bind fun q_3 =>
    some (q_3.1, q_3.2)
set_option maxRecDepth 100000 in
set_option maxHeartbeats 4000000 in
theorem c_X11_when {G : kf_G} (hty : kf_wt G) (v0 : Nat) (v1 : Int32) (v2 : Int32) (k_v0 : kf_kd G v0 = 12) (σ : kf_St) {q : (Int32 × kf_St)} (h : f_X11_when v0 v1 v2 σ = some q) : kf_Ct (8) yX11_when cX11_when 3 (some .int) G [.ref (kf_ad G v0), .int v1, .int v2] σ (some (.int q.1)) q.2 := by
  refine kf_Ct.of hty.1 (lv := [(0, .ref (kf_ad G v0)), (1, .int v1), (2, .int v2)]) (by decide +kernel) rfl (Nat.le_of_ble_eq_true rfl) (fun X E => ?_)
  unfold f_X11_when at h
  refine wa_aload_n 0 rfl E d_X11_when_0 ?_
  refine wa_getR fl_X11_19 k_v0 rfl E d_X11_when_1 ?_
  refine wa_iload_n 1 rfl E d_X11_when_4 ?_
  refine wa_iload_n 2 rfl E d_X11_when_5 ?_
  obtain ⟨q_1, hq_1, h⟩ := kf_bd h
  refine wa_callV (st2 := [.int q_1.1]) (c_X10_hasBoth hty (kf_rf v0 1) v1 v2 (kf_wtf hty 1 10 k_v0 (by decide) rfl) σ hq_1) mv_X10_hasBoth ml_X11_187 (kf_wtf hty 1 10 k_v0 (by decide) rfl) rfl (Nat.le_of_ble_eq_true rfl) rfl (Nat.le_of_ble_eq_true rfl) E d_X11_when_6 rfl ?_
  refine wa_if_eq E d_X11_when_9 (fun c_2 => ?_) (fun c_2 => ?_)
  · replace h := kf_ift c_2 h
    refine wa_iconst (-1) ic_m1 E d_X11_when_25 ?_
    cases h
    exact wa_iret E d_X11_when_26
  · replace h := kf_iff c_2 h
    refine wa_aload_n 0 rfl E d_X11_when_12 ?_
    refine wa_getR fl_X11_63 k_v0 rfl E d_X11_when_13 ?_
    refine wa_iload_n 1 rfl E d_X11_when_16 ?_
    refine wa_iload_n 2 rfl E d_X11_when_17 ?_
    refine wa_iconst 1 ic_1 E d_X11_when_18 ?_
    obtain ⟨q_3, hq_3, h⟩ := kf_bd h
    refine wa_callV (st2 := [.int q_3.1]) (c_X0_firstDay hty (kf_rf v0 7) v1 v2 1 (kf_wtf hty 7 0 k_v0 (by decide) rfl) q_1.2 hq_3) mv_X0_firstDay ml_X11_273 (kf_wtf hty 7 0 k_v0 (by decide) rfl) rfl (Nat.le_of_ble_eq_true rfl) rfl (Nat.le_of_ble_eq_true rfl) E d_X11_when_19 rfl ?_
    refine wa_goto E d_X11_when_22 ?_
    cases h
    exact wa_iret E d_X11_when_26
/-! X11_alone -/
theorem d_X11_alone_0 : kf_dq cX11_alone 0 1 1 (.aload_n 0) := ⟨by decide +kernel, rfl⟩
theorem d_X11_alone_1 : kf_dq cX11_alone 1 4 3 (.getfield 19) := ⟨by decide +kernel, rfl⟩
theorem d_X11_alone_4 : kf_dq cX11_alone 4 5 1 (.iload_n 1) := ⟨by decide +kernel, rfl⟩
theorem d_X11_alone_5 : kf_dq cX11_alone 5 6 1 (.iload_n 2) := ⟨by decide +kernel, rfl⟩
theorem d_X11_alone_6 : kf_dq cX11_alone 6 9 3 (.invokevirtual 187) := ⟨by decide +kernel, rfl⟩
theorem d_X11_alone_9 : kf_dj cX11_alone 9 12 24 (.ifCond .eq) := ⟨15, by decide +kernel, rfl, by decide⟩
theorem d_X11_alone_12 : kf_dq cX11_alone 12 13 1 (.aload_n 0) := ⟨by decide +kernel, rfl⟩
theorem d_X11_alone_13 : kf_dq cX11_alone 13 16 3 (.getfield 63) := ⟨by decide +kernel, rfl⟩
theorem d_X11_alone_16 : kf_dq cX11_alone 16 17 1 (.iload_n 1) := ⟨by decide +kernel, rfl⟩
theorem d_X11_alone_17 : kf_dq cX11_alone 17 18 1 (.iload_n 2) := ⟨by decide +kernel, rfl⟩
theorem d_X11_alone_18 : kf_dq cX11_alone 18 21 3 (.invokevirtual 280) := ⟨by decide +kernel, rfl⟩
theorem d_X11_alone_21 : kf_dj cX11_alone 21 24 25 .goto := ⟨4, by decide +kernel, rfl, by decide⟩
theorem d_X11_alone_24 : kf_dq cX11_alone 24 25 1 (.iconst (-1)) := ⟨by decide +kernel, rfl⟩
theorem d_X11_alone_25 : kf_dq cX11_alone 25 26 1 (.ireturn) := ⟨by decide +kernel, rfl⟩
def f_X11_alone (v0 : Nat) (v1 : Int32) (v2 : Int32) (σ : kf_St) : Option (Int32 × kf_St) :=
  (f_X10_hasBoth (kf_rf v0 1) v1 v2 σ).bind fun q_1 =>
  if q_1.1 = 0 then
    some ((-1), q_1.2)
  else
    (f_X0_liftsAlone (kf_rf v0 7) v1 v2 q_1.2).bind fun q_3 =>
    some (q_3.1, q_3.2)
set_option maxRecDepth 100000 in
set_option maxHeartbeats 4000000 in
theorem c_X11_alone {G : kf_G} (hty : kf_wt G) (v0 : Nat) (v1 : Int32) (v2 : Int32) (k_v0 : kf_kd G v0 = 12) (σ : kf_St) {q : (Int32 × kf_St)} (h : f_X11_alone v0 v1 v2 σ = some q) : kf_Ct (7) yX11_alone cX11_alone 3 (some .int) G [.ref (kf_ad G v0), .int v1, .int v2] σ (some (.int q.1)) q.2 := by
  refine kf_Ct.of hty.1 (lv := [(0, .ref (kf_ad G v0)), (1, .int v1), (2, .int v2)]) (by decide +kernel) rfl (Nat.le_of_ble_eq_true rfl) (fun X E => ?_)
  unfold f_X11_alone at h
  refine wa_aload_n 0 rfl E d_X11_alone_0 ?_
  refine wa_getR fl_X11_19 k_v0 rfl E d_X11_alone_1 ?_
  refine wa_iload_n 1 rfl E d_X11_alone_4 ?_
  refine wa_iload_n 2 rfl E d_X11_alone_5 ?_
  obtain ⟨q_1, hq_1, h⟩ := kf_bd h
  refine wa_callV (st2 := [.int q_1.1]) (c_X10_hasBoth hty (kf_rf v0 1) v1 v2 (kf_wtf hty 1 10 k_v0 (by decide) rfl) σ hq_1) mv_X10_hasBoth ml_X11_187 (kf_wtf hty 1 10 k_v0 (by decide) rfl) rfl (Nat.le_of_ble_eq_true rfl) rfl (Nat.le_of_ble_eq_true rfl) E d_X11_alone_6 rfl ?_
  refine wa_if_eq E d_X11_alone_9 (fun c_2 => ?_) (fun c_2 => ?_)
  · replace h := kf_ift c_2 h
    refine wa_iconst (-1) ic_m1 E d_X11_alone_24 ?_
    cases h
    exact wa_iret E d_X11_alone_25
  · replace h := kf_iff c_2 h
    refine wa_aload_n 0 rfl E d_X11_alone_12 ?_
    refine wa_getR fl_X11_63 k_v0 rfl E d_X11_alone_13 ?_
    refine wa_iload_n 1 rfl E d_X11_alone_16 ?_
    refine wa_iload_n 2 rfl E d_X11_alone_17 ?_
    obtain ⟨q_3, hq_3, h⟩ := kf_bd h
    refine wa_callV (st2 := [.int q_3.1]) (c_X0_liftsAlone hty (kf_rf v0 7) v1 v2 (kf_wtf hty 7 0 k_v0 (by decide) rfl) q_1.2 hq_3) mv_X0_liftsAlone ml_X11_280 (kf_wtf hty 7 0 k_v0 (by decide) rfl) rfl (Nat.le_of_ble_eq_true rfl) rfl (Nat.le_of_ble_eq_true rfl) E d_X11_alone_18 rfl ?_
    refine wa_goto E d_X11_alone_21 ?_
    cases h
    exact wa_iret E d_X11_alone_25
/-! X11_confused -/
theorem d_X11_confused_0 : kf_dq cX11_confused 0 1 1 (.iload_n 1) := ⟨by decide +kernel, rfl⟩
theorem d_X11_confused_1 : kf_dq cX11_confused 1 4 3 (.invokestatic 238) := ⟨by decide +kernel, rfl⟩
theorem d_X11_confused_4 : kf_dj cX11_confused 4 7 28 (.ifCond .eq) := ⟨24, by decide +kernel, rfl, by decide⟩
theorem d_X11_confused_7 : kf_dq cX11_confused 7 8 1 (.aload_n 0) := ⟨by decide +kernel, rfl⟩
theorem d_X11_confused_8 : kf_dq cX11_confused 8 11 3 (.getfield 19) := ⟨by decide +kernel, rfl⟩
theorem d_X11_confused_11 : kf_dq cX11_confused 11 14 3 (.getfield 152) := ⟨by decide +kernel, rfl⟩
theorem d_X11_confused_14 : kf_dq cX11_confused 14 15 1 (.aload_n 0) := ⟨by decide +kernel, rfl⟩
theorem d_X11_confused_15 : kf_dq cX11_confused 15 18 3 (.getfield 19) := ⟨by decide +kernel, rfl⟩
theorem d_X11_confused_18 : kf_dq cX11_confused 18 21 3 (.getfield 241) := ⟨by decide +kernel, rfl⟩
theorem d_X11_confused_21 : kf_dq cX11_confused 21 22 1 (.iload_n 1) := ⟨by decide +kernel, rfl⟩
theorem d_X11_confused_22 : kf_dq cX11_confused 22 25 3 (.invokestatic 259) := ⟨by decide +kernel, rfl⟩
theorem d_X11_confused_25 : kf_dj cX11_confused 25 28 29 .goto := ⟨4, by decide +kernel, rfl, by decide⟩
theorem d_X11_confused_28 : kf_dq cX11_confused 28 29 1 (.iconst (-1)) := ⟨by decide +kernel, rfl⟩
theorem d_X11_confused_29 : kf_dq cX11_confused 29 30 1 (.ireturn) := ⟨by decide +kernel, rfl⟩
def f_X11_confused (v0 : Nat) (v1 : Int32) (σ : kf_St) : Option (Int32 × kf_St) :=
  (f_X11_isPick v1 σ).bind fun q_1 =>
  if q_1.1 = 0 then
    some ((-1), q_1.2)
  else
    (f_X11_closestTwo (kf_rf (kf_rf v0 1) 9) (q_1.2.1 (kf_rf v0 1) 1) v1 q_1.2).bind fun q_3 =>
    some (q_3.1, q_3.2)
set_option maxRecDepth 100000 in
set_option maxHeartbeats 4000000 in
theorem c_X11_confused {G : kf_G} (hty : kf_wt G) (v0 : Nat) (v1 : Int32) (k_v0 : kf_kd G v0 = 12) (σ : kf_St) {q : (Int32 × kf_St)} (h : f_X11_confused v0 v1 σ = some q) : kf_Ct (3) yX11_confused cX11_confused 2 (some .int) G [.ref (kf_ad G v0), .int v1] σ (some (.int q.1)) q.2 := by
  refine kf_Ct.of hty.1 (lv := [(0, .ref (kf_ad G v0)), (1, .int v1)]) (by decide +kernel) rfl (Nat.le_of_ble_eq_true rfl) (fun X E => ?_)
  unfold f_X11_confused at h
  refine wa_iload_n 1 rfl E d_X11_confused_0 ?_
  obtain ⟨q_1, hq_1, h⟩ := kf_bd h
  refine wa_callS (st2 := [.int q_1.1]) (c_X11_isPick hty v1 σ hq_1) mt_X11_isPick ml_X11_238 rfl (Nat.le_of_ble_eq_true rfl) rfl (Nat.le_of_ble_eq_true rfl) E d_X11_confused_1 rfl ?_
  refine wa_if_eq E d_X11_confused_4 (fun c_2 => ?_) (fun c_2 => ?_)
  · replace h := kf_ift c_2 h
    refine wa_iconst (-1) ic_m1 E d_X11_confused_28 ?_
    cases h
    exact wa_iret E d_X11_confused_29
  · replace h := kf_iff c_2 h
    refine wa_aload_n 0 rfl E d_X11_confused_7 ?_
    refine wa_getR fl_X11_19 k_v0 rfl E d_X11_confused_8 ?_
    refine wa_getR fl_X11_152 (kf_wtf hty 1 10 k_v0 (by decide) rfl) rfl E d_X11_confused_11 ?_
    refine wa_aload_n 0 rfl E d_X11_confused_14 ?_
    refine wa_getR fl_X11_19 k_v0 rfl E d_X11_confused_15 ?_
    refine wa_getI fl_X11_241 (kf_wtf hty 1 10 k_v0 (by decide) rfl) rfl E d_X11_confused_18 ?_
    refine wa_iload_n 1 rfl E d_X11_confused_21 ?_
    obtain ⟨q_3, hq_3, h⟩ := kf_bd h
    refine wa_callS (st2 := [.int q_3.1]) (c_X11_closestTwo hty (kf_rf (kf_rf v0 1) 9) (q_1.2.1 (kf_rf v0 1) 1) v1 (kf_wtf hty 9 49 (kf_wtf hty 1 10 k_v0 (by decide) rfl) (by decide) rfl) q_1.2 hq_3) mt_X11_closestTwo ml_X11_259 rfl (Nat.le_of_ble_eq_true rfl) rfl (Nat.le_of_ble_eq_true rfl) E d_X11_confused_22 rfl ?_
    refine wa_goto E d_X11_confused_25 ?_
    cases h
    exact wa_iret E d_X11_confused_29
/-! X11_nearest -/
theorem d_X11_nearest_0 : kf_dq cX11_nearest 0 1 1 (.aload_n 0) := ⟨by decide +kernel, rfl⟩
theorem d_X11_nearest_1 : kf_dq cX11_nearest 1 4 3 (.getfield 19) := ⟨by decide +kernel, rfl⟩
theorem d_X11_nearest_4 : kf_dq cX11_nearest 4 5 1 (.iload_n 1) := ⟨by decide +kernel, rfl⟩
theorem d_X11_nearest_5 : kf_dq cX11_nearest 5 8 3 (.invokevirtual 116) := ⟨by decide +kernel, rfl⟩
theorem d_X11_nearest_8 : kf_dj cX11_nearest 8 11 18 (.ifCond .eq) := ⟨10, by decide +kernel, rfl, by decide⟩
theorem d_X11_nearest_11 : kf_dq cX11_nearest 11 12 1 (.iload_n 2) := ⟨by decide +kernel, rfl⟩
theorem d_X11_nearest_12 : kf_dq cX11_nearest 12 15 3 (.invokestatic 218) := ⟨by decide +kernel, rfl⟩
theorem d_X11_nearest_15 : kf_dj cX11_nearest 15 18 20 (.ifCond .ne) := ⟨5, by decide +kernel, rfl, by decide⟩
theorem d_X11_nearest_18 : kf_dq cX11_nearest 18 19 1 (.iconst (-1)) := ⟨by decide +kernel, rfl⟩
theorem d_X11_nearest_19 : kf_dq cX11_nearest 19 20 1 (.ireturn) := ⟨by decide +kernel, rfl⟩
theorem d_X11_nearest_20 : kf_dq cX11_nearest 20 21 1 (.aload_n 0) := ⟨by decide +kernel, rfl⟩
theorem d_X11_nearest_21 : kf_dq cX11_nearest 21 24 3 (.getfield 38) := ⟨by decide +kernel, rfl⟩
theorem d_X11_nearest_24 : kf_dq cX11_nearest 24 27 3 (.getfield 119) := ⟨by decide +kernel, rfl⟩
theorem d_X11_nearest_27 : kf_dq cX11_nearest 27 28 1 (.iload_n 1) := ⟨by decide +kernel, rfl⟩
theorem d_X11_nearest_28 : kf_dq cX11_nearest 28 29 1 (.aaload) := ⟨by decide +kernel, rfl⟩
theorem d_X11_nearest_29 : kf_dq cX11_nearest 29 32 3 (.getfield 123) := ⟨by decide +kernel, rfl⟩
theorem d_X11_nearest_32 : kf_dq cX11_nearest 32 33 1 (.iload_n 2) := ⟨by decide +kernel, rfl⟩
theorem d_X11_nearest_33 : kf_dq cX11_nearest 33 34 1 (.iaload) := ⟨by decide +kernel, rfl⟩
theorem d_X11_nearest_34 : kf_dq cX11_nearest 34 35 1 (.istore_n 3) := ⟨by decide +kernel, rfl⟩
theorem d_X11_nearest_35 : kf_dq cX11_nearest 35 37 2 (.bipush (-2)) := ⟨by decide +kernel, rfl⟩
theorem d_X11_nearest_37 : kf_dq cX11_nearest 37 39 2 (.istore 4) := ⟨by decide +kernel, rfl⟩
theorem d_X11_nearest_39 : kf_dq cX11_nearest 39 40 1 (.iconst 0) := ⟨by decide +kernel, rfl⟩
theorem d_X11_nearest_40 : kf_dq cX11_nearest 40 42 2 (.istore 5) := ⟨by decide +kernel, rfl⟩
theorem d_X11_nearest_42 : kf_dq cX11_nearest 42 43 1 (.iconst 0) := ⟨by decide +kernel, rfl⟩
theorem d_X11_nearest_43 : kf_dq cX11_nearest 43 45 2 (.istore 6) := ⟨by decide +kernel, rfl⟩
theorem d_X11_nearest_45 : kf_dq cX11_nearest 45 47 2 (.iload 6) := ⟨by decide +kernel, rfl⟩
theorem d_X11_nearest_47 : kf_dq cX11_nearest 47 48 1 (.aload_n 0) := ⟨by decide +kernel, rfl⟩
theorem d_X11_nearest_48 : kf_dq cX11_nearest 48 51 3 (.getfield 19) := ⟨by decide +kernel, rfl⟩
theorem d_X11_nearest_51 : kf_dq cX11_nearest 51 54 3 (.getfield 241) := ⟨by decide +kernel, rfl⟩
theorem d_X11_nearest_54 : kf_dj cX11_nearest 54 57 104 (.if_icmp .ge) := ⟨50, by decide +kernel, rfl, by decide⟩
theorem d_X11_nearest_57 : kf_dq cX11_nearest 57 58 1 (.iload_n 3) := ⟨by decide +kernel, rfl⟩
theorem d_X11_nearest_58 : kf_dq cX11_nearest 58 59 1 (.aload_n 0) := ⟨by decide +kernel, rfl⟩
theorem d_X11_nearest_59 : kf_dq cX11_nearest 59 62 3 (.getfield 19) := ⟨by decide +kernel, rfl⟩
theorem d_X11_nearest_62 : kf_dq cX11_nearest 62 65 3 (.getfield 152) := ⟨by decide +kernel, rfl⟩
theorem d_X11_nearest_65 : kf_dq cX11_nearest 65 66 1 (.iconst 4) := ⟨by decide +kernel, rfl⟩
theorem d_X11_nearest_66 : kf_dq cX11_nearest 66 68 2 (.iload 6) := ⟨by decide +kernel, rfl⟩
theorem d_X11_nearest_68 : kf_dq cX11_nearest 68 69 1 (.imul) := ⟨by decide +kernel, rfl⟩
theorem d_X11_nearest_69 : kf_dq cX11_nearest 69 70 1 (.iload_n 2) := ⟨by decide +kernel, rfl⟩
theorem d_X11_nearest_70 : kf_dq cX11_nearest 70 71 1 (.iadd) := ⟨by decide +kernel, rfl⟩
theorem d_X11_nearest_71 : kf_dq cX11_nearest 71 72 1 (.iaload) := ⟨by decide +kernel, rfl⟩
theorem d_X11_nearest_72 : kf_dq cX11_nearest 72 73 1 (.isub) := ⟨by decide +kernel, rfl⟩
theorem d_X11_nearest_73 : kf_dq cX11_nearest 73 76 3 (.invokestatic 283) := ⟨by decide +kernel, rfl⟩
theorem d_X11_nearest_76 : kf_dq cX11_nearest 76 78 2 (.istore 7) := ⟨by decide +kernel, rfl⟩
theorem d_X11_nearest_78 : kf_dq cX11_nearest 78 80 2 (.iload 4) := ⟨by decide +kernel, rfl⟩
theorem d_X11_nearest_80 : kf_dj cX11_nearest 80 83 90 (.ifCond .lt) := ⟨10, by decide +kernel, rfl, by decide⟩
theorem d_X11_nearest_83 : kf_dq cX11_nearest 83 85 2 (.iload 7) := ⟨by decide +kernel, rfl⟩
theorem d_X11_nearest_85 : kf_dq cX11_nearest 85 87 2 (.iload 5) := ⟨by decide +kernel, rfl⟩
theorem d_X11_nearest_87 : kf_dj cX11_nearest 87 90 98 (.if_icmp .ge) := ⟨11, by decide +kernel, rfl, by decide⟩
theorem d_X11_nearest_90 : kf_dq cX11_nearest 90 92 2 (.iload 6) := ⟨by decide +kernel, rfl⟩
theorem d_X11_nearest_92 : kf_dq cX11_nearest 92 94 2 (.istore 4) := ⟨by decide +kernel, rfl⟩
theorem d_X11_nearest_94 : kf_dq cX11_nearest 94 96 2 (.iload 7) := ⟨by decide +kernel, rfl⟩
theorem d_X11_nearest_96 : kf_dq cX11_nearest 96 98 2 (.istore 5) := ⟨by decide +kernel, rfl⟩
theorem d_X11_nearest_98 : kf_dq cX11_nearest 98 101 3 (.iinc 6 1) := ⟨by decide +kernel, rfl⟩
theorem d_X11_nearest_101 : kf_dj cX11_nearest 101 104 45 .goto := ⟨(-56), by decide +kernel, rfl, by decide⟩
theorem d_X11_nearest_104 : kf_dq cX11_nearest 104 106 2 (.iload 4) := ⟨by decide +kernel, rfl⟩
theorem d_X11_nearest_106 : kf_dq cX11_nearest 106 107 1 (.ireturn) := ⟨by decide +kernel, rfl⟩
def f_X11_nearest_98 (rec45 : Nat → Int32 → Int32 → Int32 → Int32 → Int32 → kf_St → Option (Int32 × kf_St)) (v0 : Nat) (v2 : Int32) (v3 : Int32) (v4 : Int32) (v5 : Int32) (v6 : Int32) (σ : kf_St) : Option (Int32 × kf_St) :=
  kf_lt (v6 + 1) fun v6_1 =>
  rec45 v0 v2 v3 v4 v5 v6_1 σ
set_option maxRecDepth 100000 in
set_option maxHeartbeats 4000000 in
theorem b_X11_nearest_98 {X : kf_X} {G : kf_G} {rec45 : Nat → Int32 → Int32 → Int32 → Int32 → Int32 → kf_St → Option (Int32 × kf_St)} {q : (Int32 × kf_St)} (E : kf_ok X G cX11_nearest RX11 8 (some .int) (2)) (hty : kf_wt G) (hrec45 : ∀ (v0 : Nat) (v2 : Int32) (v3 : Int32) (v4 : Int32) (v5 : Int32) (v6 : Int32) (k_v0 : kf_kd G v0 = 12) (σ : kf_St), rec45 v0 v2 v3 v4 v5 v6 σ = some q → kf_WA X G 8 (kf_Q X G (some (.int q.1)) q.2) 45 [(0, .ref (kf_ad G v0)), (2, .int v2), (3, .int v3), (4, .int v4), (5, .int v5), (6, .int v6)] [] σ) (v0 : Nat) (v2 : Int32) (v3 : Int32) (v4 : Int32) (v5 : Int32) (v6 : Int32) (k_v0 : kf_kd G v0 = 12) (σ : kf_St) (h : f_X11_nearest_98 rec45 v0 v2 v3 v4 v5 v6 σ = some q) : kf_WA X G 8 (kf_Q X G (some (.int q.1)) q.2) 98 [(0, .ref (kf_ad G v0)), (2, .int v2), (3, .int v3), (4, .int v4), (5, .int v5), (6, .int v6)] [] σ := by
  unfold f_X11_nearest_98 at h
  obtain ⟨v6_1, ev6_1, h⟩ := kf_lte h
  refine wa_iinc (lv' := [(6, .int v6_1), (0, .ref (kf_ad G v0)), (2, .int v2), (3, .int v3), (4, .int v4), (5, .int v5)]) v6_1 5 rfl (kf_inc ic_1 ev6_1) (by decide) rfl E d_X11_nearest_98 ?_
  refine wa_goto E d_X11_nearest_101 ?_
  refine wa_sub [1, 2, 3, 4, 5, 0] rfl ?_
  exact hrec45 v0 v2 v3 v4 v5 v6_1 k_v0 σ h
def f_X11_nearest_90 (rec45 : Nat → Int32 → Int32 → Int32 → Int32 → Int32 → kf_St → Option (Int32 × kf_St)) (v0 : Nat) (v2 : Int32) (v3 : Int32) (v6 : Int32) (v7 : Int32) (σ : kf_St) : Option (Int32 × kf_St) :=
  f_X11_nearest_98 rec45 v0 v2 v3 v6 v7 v6 σ
set_option maxRecDepth 100000 in
set_option maxHeartbeats 4000000 in
theorem b_X11_nearest_90 {X : kf_X} {G : kf_G} {rec45 : Nat → Int32 → Int32 → Int32 → Int32 → Int32 → kf_St → Option (Int32 × kf_St)} {q : (Int32 × kf_St)} (E : kf_ok X G cX11_nearest RX11 8 (some .int) (2)) (hty : kf_wt G) (hrec45 : ∀ (v0 : Nat) (v2 : Int32) (v3 : Int32) (v4 : Int32) (v5 : Int32) (v6 : Int32) (k_v0 : kf_kd G v0 = 12) (σ : kf_St), rec45 v0 v2 v3 v4 v5 v6 σ = some q → kf_WA X G 8 (kf_Q X G (some (.int q.1)) q.2) 45 [(0, .ref (kf_ad G v0)), (2, .int v2), (3, .int v3), (4, .int v4), (5, .int v5), (6, .int v6)] [] σ) (v0 : Nat) (v2 : Int32) (v3 : Int32) (v6 : Int32) (v7 : Int32) (k_v0 : kf_kd G v0 = 12) (σ : kf_St) (h : f_X11_nearest_90 rec45 v0 v2 v3 v6 v7 σ = some q) : kf_WA X G 8 (kf_Q X G (some (.int q.1)) q.2) 90 [(0, .ref (kf_ad G v0)), (2, .int v2), (3, .int v3), (6, .int v6), (7, .int v7)] [] σ := by
  unfold f_X11_nearest_90 at h
  refine wa_iload 3 rfl E d_X11_nearest_90 ?_
  refine wa_istore (lv' := [(4, .int v6), (0, .ref (kf_ad G v0)), (2, .int v2), (3, .int v3), (6, .int v6), (7, .int v7)]) (by decide) rfl E d_X11_nearest_92 ?_
  refine wa_iload 5 rfl E d_X11_nearest_94 ?_
  refine wa_istore (lv' := [(5, .int v7), (4, .int v6), (0, .ref (kf_ad G v0)), (2, .int v2), (3, .int v3), (6, .int v6), (7, .int v7)]) (by decide) rfl E d_X11_nearest_96 ?_
  refine wa_sub [2, 3, 4, 1, 0, 5] rfl ?_
  exact b_X11_nearest_98 E hty hrec45 v0 v2 v3 v6 v7 v6 k_v0 σ h
def f_X11_nearest_45_s (rec45 : Nat → Int32 → Int32 → Int32 → Int32 → Int32 → kf_St → Option (Int32 × kf_St)) (v0 : Nat) (v2 : Int32) (v3 : Int32) (v4 : Int32) (v5 : Int32) (v6 : Int32) (σ : kf_St) : Option (Int32 × kf_St) :=
  if (σ.1 (kf_rf v0 1) 1) ≤ v6 then
    some (v4, σ)
  else
    if kf_ix ((4 * v6) + v2) (kf_ln (kf_rf (kf_rf v0 1) 9)) = true then
    kf_lt (if 0 ≤ (v3 - (σ.1 (kf_rf (kf_rf v0 1) 9) (Int32.toNatClampNeg ((4 * v6) + v2)))) then (v3 - (σ.1 (kf_rf (kf_rf v0 1) 9) (Int32.toNatClampNeg ((4 * v6) + v2)))) else 0 - (v3 - (σ.1 (kf_rf (kf_rf v0 1) 9) (Int32.toNatClampNeg ((4 * v6) + v2))))) fun x_3 =>
    if v4 < 0 then
      f_X11_nearest_90 rec45 v0 v2 v3 v6 x_3 σ
    else
      if v5 ≤ x_3 then
        f_X11_nearest_98 rec45 v0 v2 v3 v4 v5 v6 σ
      else
        f_X11_nearest_90 rec45 v0 v2 v3 v6 x_3 σ
    else none
def f_X11_nearest_45 : Nat → Nat → Int32 → Int32 → Int32 → Int32 → Int32 → kf_St → Option (Int32 × kf_St)
  | 0, _, _, _, _, _, _, _ => none
  | n + 1, v0, v2, v3, v4, v5, v6, σ => f_X11_nearest_45_s (f_X11_nearest_45 n) v0 v2 v3 v4 v5 v6 σ
set_option maxRecDepth 100000 in
set_option maxHeartbeats 4000000 in
theorem b_X11_nearest_45_s {X : kf_X} {G : kf_G} (rec45 : Nat → Int32 → Int32 → Int32 → Int32 → Int32 → kf_St → Option (Int32 × kf_St)) {q : (Int32 × kf_St)} (E : kf_ok X G cX11_nearest RX11 8 (some .int) (2)) (hty : kf_wt G) (hrec45 : ∀ (v0 : Nat) (v2 : Int32) (v3 : Int32) (v4 : Int32) (v5 : Int32) (v6 : Int32) (k_v0 : kf_kd G v0 = 12) (σ : kf_St), rec45 v0 v2 v3 v4 v5 v6 σ = some q → kf_WA X G 8 (kf_Q X G (some (.int q.1)) q.2) 45 [(0, .ref (kf_ad G v0)), (2, .int v2), (3, .int v3), (4, .int v4), (5, .int v5), (6, .int v6)] [] σ) (v0 : Nat) (v2 : Int32) (v3 : Int32) (v4 : Int32) (v5 : Int32) (v6 : Int32) (k_v0 : kf_kd G v0 = 12) (σ : kf_St) (h : f_X11_nearest_45_s rec45 v0 v2 v3 v4 v5 v6 σ = some q) : kf_WA X G 8 (kf_Q X G (some (.int q.1)) q.2) 45 [(0, .ref (kf_ad G v0)), (2, .int v2), (3, .int v3), (4, .int v4), (5, .int v5), (6, .int v6)] [] σ := by
  unfold f_X11_nearest_45_s at h
  refine wa_iload 5 rfl E d_X11_nearest_45 ?_
  refine wa_aload_n 0 rfl E d_X11_nearest_47 ?_
  refine wa_getR fl_X11_19 k_v0 rfl E d_X11_nearest_48 ?_
  refine wa_getI fl_X11_241 (kf_wtf hty 1 10 k_v0 (by decide) rfl) rfl E d_X11_nearest_51 ?_
  refine wa_icmp_ge E d_X11_nearest_54 (fun c_1 => ?_) (fun c_1 => ?_)
  · replace h := kf_ift c_1 h
    refine wa_iload 3 rfl E d_X11_nearest_104 ?_
    cases h
    exact wa_iret E d_X11_nearest_106
  · replace h := kf_iff c_1 h
    refine wa_iload_n 2 rfl E d_X11_nearest_57 ?_
    refine wa_aload_n 0 rfl E d_X11_nearest_58 ?_
    refine wa_getR fl_X11_19 k_v0 rfl E d_X11_nearest_59 ?_
    refine wa_getR fl_X11_152 (kf_wtf hty 1 10 k_v0 (by decide) rfl) rfl E d_X11_nearest_62 ?_
    refine wa_iconst 4 ic_4 E d_X11_nearest_65 ?_
    refine wa_iload 5 rfl E d_X11_nearest_66 ?_
    refine wa_imul E d_X11_nearest_68 ?_
    refine wa_iload_n 1 rfl E d_X11_nearest_69 ?_
    refine wa_iadd E d_X11_nearest_70 ?_
    obtain ⟨g_2, h⟩ := kf_gd h
    refine wa_iald (kf_wtf hty 9 49 (kf_wtf hty 1 10 k_v0 (by decide) rfl) (by decide) rfl) g_2 E d_X11_nearest_71 ?_
    refine wa_isub E d_X11_nearest_72 ?_
    refine wa_mabs ml_X11_283 ms_abs mini mc_abs (Nat.le_of_ble_eq_true rfl) (Nat.le_of_ble_eq_true rfl) E d_X11_nearest_73 ?_
    obtain ⟨x_3, ex_3, h⟩ := kf_lte h
    refine wa_topi ex_3 ?_
    refine wa_istore (lv' := [(7, .int x_3), (0, .ref (kf_ad G v0)), (2, .int v2), (3, .int v3), (4, .int v4), (5, .int v5), (6, .int v6)]) (by decide) rfl E d_X11_nearest_76 ?_
    refine wa_iload 4 rfl E d_X11_nearest_78 ?_
    refine wa_if_lt E d_X11_nearest_80 (fun c_4 => ?_) (fun c_4 => ?_)
    · replace h := kf_ift c_4 h
      refine wa_sub [1, 2, 3, 6, 0] rfl ?_
      exact b_X11_nearest_90 E hty hrec45 v0 v2 v3 v6 x_3 k_v0 σ h
    · replace h := kf_iff c_4 h
      refine wa_iload 0 rfl E d_X11_nearest_83 ?_
      refine wa_iload 5 rfl E d_X11_nearest_85 ?_
      refine wa_icmp_ge E d_X11_nearest_87 (fun c_5 => ?_) (fun c_5 => ?_)
      · replace h := kf_ift c_5 h
        refine wa_sub [1, 2, 3, 4, 5, 6] rfl ?_
        exact b_X11_nearest_98 E hty hrec45 v0 v2 v3 v4 v5 v6 k_v0 σ h
      · replace h := kf_iff c_5 h
        refine wa_sub [1, 2, 3, 6, 0] rfl ?_
        exact b_X11_nearest_90 E hty hrec45 v0 v2 v3 v6 x_3 k_v0 σ h
theorem b_X11_nearest_45 {X : kf_X} {G : kf_G} {q : (Int32 × kf_St)} (E : kf_ok X G cX11_nearest RX11 8 (some .int) (2)) (hty : kf_wt G) : ∀ (N : Nat) (v0 : Nat) (v2 : Int32) (v3 : Int32) (v4 : Int32) (v5 : Int32) (v6 : Int32) (k_v0 : kf_kd G v0 = 12) (σ : kf_St) (_ : f_X11_nearest_45 N v0 v2 v3 v4 v5 v6 σ = some q), kf_WA X G 8 (kf_Q X G (some (.int q.1)) q.2) 45 [(0, .ref (kf_ad G v0)), (2, .int v2), (3, .int v3), (4, .int v4), (5, .int v5), (6, .int v6)] [] σ
  | 0, _, _, _, _, _, _, _, _, h => by cases h
  | N + 1, v0, v2, v3, v4, v5, v6, k_v0, σ, h => b_X11_nearest_45_s _ E hty (b_X11_nearest_45 E hty N) v0 v2 v3 v4 v5 v6 k_v0 σ h
def f_X11_nearest (v0 : Nat) (v1 : Int32) (v2 : Int32) (σ : kf_St) : Option (Int32 × kf_St) :=
  (f_X10_hasDoor (kf_rf v0 1) v1 σ).bind fun q_1 =>
  if q_1.1 = 0 then
    some ((-1), q_1.2)
  else
    (f_X11_isPart v2 q_1.2).bind fun q_3 =>
    if q_3.1 = 0 then
      some ((-1), q_3.2)
    else
      if kf_ix v1 (kf_ln (kf_rf (kf_rf v0 4) 0)) = true then
      if kf_ix v2 (kf_ln (kf_rf (kf_rf (kf_rf (kf_rf v0 4) 0) (Int32.toNatClampNeg v1)) 0)) = true then
      kf_lt ((q_3.2.1 (kf_rf (kf_rf (kf_rf (kf_rf v0 4) 0) (Int32.toNatClampNeg v1)) 0) (Int32.toNatClampNeg v2))) fun v3_7 =>
      f_X11_nearest_45 kf_F v0 v2 v3_7 (-2) 0 0 q_3.2
      else none
      else none
set_option maxRecDepth 100000 in
set_option maxHeartbeats 4000000 in
theorem c_X11_nearest {G : kf_G} (hty : kf_wt G) (v0 : Nat) (v1 : Int32) (v2 : Int32) (k_v0 : kf_kd G v0 = 12) (σ : kf_St) {q : (Int32 × kf_St)} (h : f_X11_nearest v0 v1 v2 σ = some q) : kf_Ct (2) yX11_nearest cX11_nearest 8 (some .int) G [.ref (kf_ad G v0), .int v1, .int v2] σ (some (.int q.1)) q.2 := by
  refine kf_Ct.of hty.1 (lv := [(0, .ref (kf_ad G v0)), (1, .int v1), (2, .int v2)]) (by decide +kernel) rfl (Nat.le_of_ble_eq_true rfl) (fun X E => ?_)
  unfold f_X11_nearest at h
  refine wa_aload_n 0 rfl E d_X11_nearest_0 ?_
  refine wa_getR fl_X11_19 k_v0 rfl E d_X11_nearest_1 ?_
  refine wa_iload_n 1 rfl E d_X11_nearest_4 ?_
  obtain ⟨q_1, hq_1, h⟩ := kf_bd h
  refine wa_callV (st2 := [.int q_1.1]) (c_X10_hasDoor hty (kf_rf v0 1) v1 (kf_wtf hty 1 10 k_v0 (by decide) rfl) σ hq_1) mv_X10_hasDoor ml_X11_116 (kf_wtf hty 1 10 k_v0 (by decide) rfl) rfl (Nat.le_of_ble_eq_true rfl) rfl (Nat.le_of_ble_eq_true rfl) E d_X11_nearest_5 rfl ?_
  refine wa_if_eq E d_X11_nearest_8 (fun c_2 => ?_) (fun c_2 => ?_)
  · replace h := kf_ift c_2 h
    refine wa_iconst (-1) ic_m1 E d_X11_nearest_18 ?_
    cases h
    exact wa_iret E d_X11_nearest_19
  · replace h := kf_iff c_2 h
    refine wa_iload_n 2 rfl E d_X11_nearest_11 ?_
    obtain ⟨q_3, hq_3, h⟩ := kf_bd h
    refine wa_callS (st2 := [.int q_3.1]) (c_X11_isPart hty v2 q_1.2 hq_3) mt_X11_isPart ml_X11_218 rfl (Nat.le_of_ble_eq_true rfl) rfl (Nat.le_of_ble_eq_true rfl) E d_X11_nearest_12 rfl ?_
    refine wa_if_ne E d_X11_nearest_15 (fun c_4 => ?_) (fun c_4 => ?_)
    · replace h := kf_iff c_4 h
      refine wa_aload_n 0 rfl E d_X11_nearest_20 ?_
      refine wa_getR fl_X11_38 k_v0 rfl E d_X11_nearest_21 ?_
      refine wa_getR fl_X11_119 (kf_wtf hty 4 7 k_v0 (by decide) rfl) rfl E d_X11_nearest_24 ?_
      refine wa_iload_n 1 rfl E d_X11_nearest_27 ?_
      obtain ⟨g_5, h⟩ := kf_gd h
      refine wa_aald (kf_wtf hty 0 53 (kf_wtf hty 4 7 k_v0 (by decide) rfl) (by decide) rfl) g_5 E d_X11_nearest_28 ?_
      refine wa_getR fl_X11_123 (kf_wta hty (kf_wtf hty 0 53 (kf_wtf hty 4 7 k_v0 (by decide) rfl) (by decide) rfl) g_5) rfl E d_X11_nearest_29 ?_
      refine wa_iload_n 2 rfl E d_X11_nearest_32 ?_
      obtain ⟨g_6, h⟩ := kf_gd h
      refine wa_iald (kf_wtf hty 0 49 (kf_wta hty (kf_wtf hty 0 53 (kf_wtf hty 4 7 k_v0 (by decide) rfl) (by decide) rfl) g_5) (by decide) rfl) g_6 E d_X11_nearest_33 ?_
      obtain ⟨v3_7, ev3_7, h⟩ := kf_lte h
      refine wa_topi ev3_7 ?_
      refine wa_istore_n (lv' := [(3, .int v3_7), (0, .ref (kf_ad G v0)), (1, .int v1), (2, .int v2)]) rfl (by decide) rfl E d_X11_nearest_34 ?_
      refine wa_bipush (-2) bp_m2 E d_X11_nearest_35 ?_
      refine wa_istore (lv' := [(4, .int (-2)), (3, .int v3_7), (0, .ref (kf_ad G v0)), (1, .int v1), (2, .int v2)]) (by decide) rfl E d_X11_nearest_37 ?_
      refine wa_iconst 0 ic_0 E d_X11_nearest_39 ?_
      refine wa_istore (lv' := [(5, .int 0), (4, .int (-2)), (3, .int v3_7), (0, .ref (kf_ad G v0)), (1, .int v1), (2, .int v2)]) (by decide) rfl E d_X11_nearest_40 ?_
      refine wa_iconst 0 ic_0 E d_X11_nearest_42 ?_
      refine wa_istore (lv' := [(6, .int 0), (5, .int 0), (4, .int (-2)), (3, .int v3_7), (0, .ref (kf_ad G v0)), (1, .int v1), (2, .int v2)]) (by decide) rfl E d_X11_nearest_43 ?_
      refine wa_sub [4, 6, 3, 2, 1, 0] rfl ?_
      exact b_X11_nearest_45 E hty kf_F v0 v2 v3_7 (-2) 0 0 k_v0 q_3.2 h
    · replace h := kf_ift c_4 h
      refine wa_iconst (-1) ic_m1 E d_X11_nearest_18 ?_
      cases h
      exact wa_iret E d_X11_nearest_19
/-! X11_same -/
theorem d_X11_same_0 : kf_dq cX11_same 0 1 1 (.aload_n 0) := ⟨by decide +kernel, rfl⟩
theorem d_X11_same_1 : kf_dq cX11_same 1 4 3 (.getfield 19) := ⟨by decide +kernel, rfl⟩
theorem d_X11_same_4 : kf_dq cX11_same 4 5 1 (.iload_n 1) := ⟨by decide +kernel, rfl⟩
theorem d_X11_same_5 : kf_dq cX11_same 5 6 1 (.iload_n 2) := ⟨by decide +kernel, rfl⟩
theorem d_X11_same_6 : kf_dq cX11_same 6 9 3 (.invokevirtual 187) := ⟨by decide +kernel, rfl⟩
theorem d_X11_same_9 : kf_dj cX11_same 9 12 14 (.ifCond .ne) := ⟨5, by decide +kernel, rfl, by decide⟩
theorem d_X11_same_12 : kf_dq cX11_same 12 13 1 (.iconst (-1)) := ⟨by decide +kernel, rfl⟩
theorem d_X11_same_13 : kf_dq cX11_same 13 14 1 (.ireturn) := ⟨by decide +kernel, rfl⟩
theorem d_X11_same_14 : kf_dq cX11_same 14 15 1 (.iconst 0) := ⟨by decide +kernel, rfl⟩
theorem d_X11_same_15 : kf_dq cX11_same 15 16 1 (.istore_n 3) := ⟨by decide +kernel, rfl⟩
theorem d_X11_same_16 : kf_dq cX11_same 16 17 1 (.iconst 0) := ⟨by decide +kernel, rfl⟩
theorem d_X11_same_17 : kf_dq cX11_same 17 19 2 (.istore 4) := ⟨by decide +kernel, rfl⟩
theorem d_X11_same_19 : kf_dq cX11_same 19 21 2 (.iload 4) := ⟨by decide +kernel, rfl⟩
theorem d_X11_same_21 : kf_dq cX11_same 21 22 1 (.iconst 4) := ⟨by decide +kernel, rfl⟩
theorem d_X11_same_22 : kf_dj cX11_same 22 25 70 (.if_icmp .ge) := ⟨48, by decide +kernel, rfl, by decide⟩
theorem d_X11_same_25 : kf_dq cX11_same 25 26 1 (.aload_n 0) := ⟨by decide +kernel, rfl⟩
theorem d_X11_same_26 : kf_dq cX11_same 26 29 3 (.getfield 38) := ⟨by decide +kernel, rfl⟩
theorem d_X11_same_29 : kf_dq cX11_same 29 32 3 (.getfield 119) := ⟨by decide +kernel, rfl⟩
theorem d_X11_same_32 : kf_dq cX11_same 32 33 1 (.iload_n 1) := ⟨by decide +kernel, rfl⟩
theorem d_X11_same_33 : kf_dq cX11_same 33 34 1 (.aaload) := ⟨by decide +kernel, rfl⟩
theorem d_X11_same_34 : kf_dq cX11_same 34 37 3 (.getfield 123) := ⟨by decide +kernel, rfl⟩
theorem d_X11_same_37 : kf_dq cX11_same 37 39 2 (.iload 4) := ⟨by decide +kernel, rfl⟩
theorem d_X11_same_39 : kf_dq cX11_same 39 40 1 (.iaload) := ⟨by decide +kernel, rfl⟩
theorem d_X11_same_40 : kf_dq cX11_same 40 41 1 (.aload_n 0) := ⟨by decide +kernel, rfl⟩
theorem d_X11_same_41 : kf_dq cX11_same 41 44 3 (.getfield 19) := ⟨by decide +kernel, rfl⟩
theorem d_X11_same_44 : kf_dq cX11_same 44 47 3 (.getfield 152) := ⟨by decide +kernel, rfl⟩
theorem d_X11_same_47 : kf_dq cX11_same 47 48 1 (.iconst 4) := ⟨by decide +kernel, rfl⟩
theorem d_X11_same_48 : kf_dq cX11_same 48 49 1 (.iload_n 2) := ⟨by decide +kernel, rfl⟩
theorem d_X11_same_49 : kf_dq cX11_same 49 50 1 (.imul) := ⟨by decide +kernel, rfl⟩
theorem d_X11_same_50 : kf_dq cX11_same 50 52 2 (.iload 4) := ⟨by decide +kernel, rfl⟩
theorem d_X11_same_52 : kf_dq cX11_same 52 53 1 (.iadd) := ⟨by decide +kernel, rfl⟩
theorem d_X11_same_53 : kf_dq cX11_same 53 54 1 (.iaload) := ⟨by decide +kernel, rfl⟩
theorem d_X11_same_54 : kf_dj cX11_same 54 57 64 (.if_icmp .ne) := ⟨10, by decide +kernel, rfl, by decide⟩
theorem d_X11_same_57 : kf_dq cX11_same 57 58 1 (.iload_n 3) := ⟨by decide +kernel, rfl⟩
theorem d_X11_same_58 : kf_dq cX11_same 58 59 1 (.iconst 1) := ⟨by decide +kernel, rfl⟩
theorem d_X11_same_59 : kf_dq cX11_same 59 61 2 (.iload 4) := ⟨by decide +kernel, rfl⟩
theorem d_X11_same_61 : kf_dq cX11_same 61 62 1 (.ishl) := ⟨by decide +kernel, rfl⟩
theorem d_X11_same_62 : kf_dq cX11_same 62 63 1 (.ior) := ⟨by decide +kernel, rfl⟩
theorem d_X11_same_63 : kf_dq cX11_same 63 64 1 (.istore_n 3) := ⟨by decide +kernel, rfl⟩
theorem d_X11_same_64 : kf_dq cX11_same 64 67 3 (.iinc 4 1) := ⟨by decide +kernel, rfl⟩
theorem d_X11_same_67 : kf_dj cX11_same 67 70 19 .goto := ⟨(-48), by decide +kernel, rfl, by decide⟩
theorem d_X11_same_70 : kf_dq cX11_same 70 71 1 (.iload_n 3) := ⟨by decide +kernel, rfl⟩
theorem d_X11_same_71 : kf_dq cX11_same 71 72 1 (.ireturn) := ⟨by decide +kernel, rfl⟩
def f_X11_same_64 (rec19 : Nat → Int32 → Int32 → Int32 → Int32 → kf_St → Option (Int32 × kf_St)) (v0 : Nat) (v1 : Int32) (v2 : Int32) (v3 : Int32) (v4 : Int32) (σ : kf_St) : Option (Int32 × kf_St) :=
  kf_lt (v4 + 1) fun v4_1 =>
  rec19 v0 v1 v2 v3 v4_1 σ
set_option maxRecDepth 100000 in
set_option maxHeartbeats 4000000 in
theorem b_X11_same_64 {X : kf_X} {G : kf_G} {rec19 : Nat → Int32 → Int32 → Int32 → Int32 → kf_St → Option (Int32 × kf_St)} {q : (Int32 × kf_St)} (E : kf_ok X G cX11_same RX11 5 (some .int) (3)) (hty : kf_wt G) (hrec19 : ∀ (v0 : Nat) (v1 : Int32) (v2 : Int32) (v3 : Int32) (v4 : Int32) (k_v0 : kf_kd G v0 = 12) (σ : kf_St), rec19 v0 v1 v2 v3 v4 σ = some q → kf_WA X G 5 (kf_Q X G (some (.int q.1)) q.2) 19 [(0, .ref (kf_ad G v0)), (1, .int v1), (2, .int v2), (3, .int v3), (4, .int v4)] [] σ) (v0 : Nat) (v1 : Int32) (v2 : Int32) (v3 : Int32) (v4 : Int32) (k_v0 : kf_kd G v0 = 12) (σ : kf_St) (h : f_X11_same_64 rec19 v0 v1 v2 v3 v4 σ = some q) : kf_WA X G 5 (kf_Q X G (some (.int q.1)) q.2) 64 [(0, .ref (kf_ad G v0)), (1, .int v1), (2, .int v2), (3, .int v3), (4, .int v4)] [] σ := by
  unfold f_X11_same_64 at h
  obtain ⟨v4_1, ev4_1, h⟩ := kf_lte h
  refine wa_iinc (lv' := [(4, .int v4_1), (0, .ref (kf_ad G v0)), (1, .int v1), (2, .int v2), (3, .int v3)]) v4_1 4 rfl (kf_inc ic_1 ev4_1) (by decide) rfl E d_X11_same_64 ?_
  refine wa_goto E d_X11_same_67 ?_
  refine wa_sub [1, 2, 3, 4, 0] rfl ?_
  exact hrec19 v0 v1 v2 v3 v4_1 k_v0 σ h
def f_X11_same_19_s (rec19 : Nat → Int32 → Int32 → Int32 → Int32 → kf_St → Option (Int32 × kf_St)) (v0 : Nat) (v1 : Int32) (v2 : Int32) (v3 : Int32) (v4 : Int32) (σ : kf_St) : Option (Int32 × kf_St) :=
  if 4 ≤ v4 then
    some (v3, σ)
  else
    if kf_ix v1 (kf_ln (kf_rf (kf_rf v0 4) 0)) = true then
    if kf_ix v4 (kf_ln (kf_rf (kf_rf (kf_rf (kf_rf v0 4) 0) (Int32.toNatClampNeg v1)) 0)) = true then
    if kf_ix ((4 * v2) + v4) (kf_ln (kf_rf (kf_rf v0 1) 9)) = true then
    if (σ.1 (kf_rf (kf_rf (kf_rf (kf_rf v0 4) 0) (Int32.toNatClampNeg v1)) 0) (Int32.toNatClampNeg v4)) = (σ.1 (kf_rf (kf_rf v0 1) 9) (Int32.toNatClampNeg ((4 * v2) + v4))) then
      kf_lt ((v3 ||| ((1 : Int32) <<< (v4 &&& 31)))) fun v3_6 =>
      f_X11_same_64 rec19 v0 v1 v2 v3_6 v4 σ
    else
      f_X11_same_64 rec19 v0 v1 v2 v3 v4 σ
    else none
    else none
    else none
def f_X11_same_19 : Nat → Nat → Int32 → Int32 → Int32 → Int32 → kf_St → Option (Int32 × kf_St)
  | 0, _, _, _, _, _, _ => none
  | n + 1, v0, v1, v2, v3, v4, σ => f_X11_same_19_s (f_X11_same_19 n) v0 v1 v2 v3 v4 σ
set_option maxRecDepth 100000 in
set_option maxHeartbeats 4000000 in
theorem b_X11_same_19_s {X : kf_X} {G : kf_G} (rec19 : Nat → Int32 → Int32 → Int32 → Int32 → kf_St → Option (Int32 × kf_St)) {q : (Int32 × kf_St)} (E : kf_ok X G cX11_same RX11 5 (some .int) (3)) (hty : kf_wt G) (hrec19 : ∀ (v0 : Nat) (v1 : Int32) (v2 : Int32) (v3 : Int32) (v4 : Int32) (k_v0 : kf_kd G v0 = 12) (σ : kf_St), rec19 v0 v1 v2 v3 v4 σ = some q → kf_WA X G 5 (kf_Q X G (some (.int q.1)) q.2) 19 [(0, .ref (kf_ad G v0)), (1, .int v1), (2, .int v2), (3, .int v3), (4, .int v4)] [] σ) (v0 : Nat) (v1 : Int32) (v2 : Int32) (v3 : Int32) (v4 : Int32) (k_v0 : kf_kd G v0 = 12) (σ : kf_St) (h : f_X11_same_19_s rec19 v0 v1 v2 v3 v4 σ = some q) : kf_WA X G 5 (kf_Q X G (some (.int q.1)) q.2) 19 [(0, .ref (kf_ad G v0)), (1, .int v1), (2, .int v2), (3, .int v3), (4, .int v4)] [] σ := by
  unfold f_X11_same_19_s at h
  refine wa_iload 4 rfl E d_X11_same_19 ?_
  refine wa_iconst 4 ic_4 E d_X11_same_21 ?_
  refine wa_icmp_ge E d_X11_same_22 (fun c_1 => ?_) (fun c_1 => ?_)
  · replace h := kf_ift c_1 h
    refine wa_iload_n 3 rfl E d_X11_same_70 ?_
    cases h
    exact wa_iret E d_X11_same_71
  · replace h := kf_iff c_1 h
    refine wa_aload_n 0 rfl E d_X11_same_25 ?_
    refine wa_getR fl_X11_38 k_v0 rfl E d_X11_same_26 ?_
    refine wa_getR fl_X11_119 (kf_wtf hty 4 7 k_v0 (by decide) rfl) rfl E d_X11_same_29 ?_
    refine wa_iload_n 1 rfl E d_X11_same_32 ?_
    obtain ⟨g_2, h⟩ := kf_gd h
    refine wa_aald (kf_wtf hty 0 53 (kf_wtf hty 4 7 k_v0 (by decide) rfl) (by decide) rfl) g_2 E d_X11_same_33 ?_
    refine wa_getR fl_X11_123 (kf_wta hty (kf_wtf hty 0 53 (kf_wtf hty 4 7 k_v0 (by decide) rfl) (by decide) rfl) g_2) rfl E d_X11_same_34 ?_
    refine wa_iload 4 rfl E d_X11_same_37 ?_
    obtain ⟨g_3, h⟩ := kf_gd h
    refine wa_iald (kf_wtf hty 0 49 (kf_wta hty (kf_wtf hty 0 53 (kf_wtf hty 4 7 k_v0 (by decide) rfl) (by decide) rfl) g_2) (by decide) rfl) g_3 E d_X11_same_39 ?_
    refine wa_aload_n 0 rfl E d_X11_same_40 ?_
    refine wa_getR fl_X11_19 k_v0 rfl E d_X11_same_41 ?_
    refine wa_getR fl_X11_152 (kf_wtf hty 1 10 k_v0 (by decide) rfl) rfl E d_X11_same_44 ?_
    refine wa_iconst 4 ic_4 E d_X11_same_47 ?_
    refine wa_iload_n 2 rfl E d_X11_same_48 ?_
    refine wa_imul E d_X11_same_49 ?_
    refine wa_iload 4 rfl E d_X11_same_50 ?_
    refine wa_iadd E d_X11_same_52 ?_
    obtain ⟨g_4, h⟩ := kf_gd h
    refine wa_iald (kf_wtf hty 9 49 (kf_wtf hty 1 10 k_v0 (by decide) rfl) (by decide) rfl) g_4 E d_X11_same_53 ?_
    refine wa_icmp_ne E d_X11_same_54 (fun c_5 => ?_) (fun c_5 => ?_)
    · replace h := kf_iff c_5 h
      exact b_X11_same_64 E hty hrec19 v0 v1 v2 v3 v4 k_v0 σ h
    · replace h := kf_ift c_5 h
      refine wa_iload_n 3 rfl E d_X11_same_57 ?_
      refine wa_iconst 1 ic_1 E d_X11_same_58 ?_
      refine wa_iload 4 rfl E d_X11_same_59 ?_
      refine wa_ishl E d_X11_same_61 ?_
      refine wa_ior E d_X11_same_62 ?_
      obtain ⟨v3_6, ev3_6, h⟩ := kf_lte h
      refine wa_topi ev3_6 ?_
      refine wa_istore_n (lv' := [(3, .int v3_6), (0, .ref (kf_ad G v0)), (1, .int v1), (2, .int v2), (4, .int v4)]) rfl (by decide) rfl E d_X11_same_63 ?_
      refine wa_sub [1, 2, 3, 0, 4] rfl ?_
      exact b_X11_same_64 E hty hrec19 v0 v1 v2 v3_6 v4 k_v0 σ h
theorem b_X11_same_19 {X : kf_X} {G : kf_G} {q : (Int32 × kf_St)} (E : kf_ok X G cX11_same RX11 5 (some .int) (3)) (hty : kf_wt G) : ∀ (N : Nat) (v0 : Nat) (v1 : Int32) (v2 : Int32) (v3 : Int32) (v4 : Int32) (k_v0 : kf_kd G v0 = 12) (σ : kf_St) (_ : f_X11_same_19 N v0 v1 v2 v3 v4 σ = some q), kf_WA X G 5 (kf_Q X G (some (.int q.1)) q.2) 19 [(0, .ref (kf_ad G v0)), (1, .int v1), (2, .int v2), (3, .int v3), (4, .int v4)] [] σ
  | 0, _, _, _, _, _, _, _, h => by cases h
  | N + 1, v0, v1, v2, v3, v4, k_v0, σ, h => b_X11_same_19_s _ E hty (b_X11_same_19 E hty N) v0 v1 v2 v3 v4 k_v0 σ h
def f_X11_same (v0 : Nat) (v1 : Int32) (v2 : Int32) (σ : kf_St) : Option (Int32 × kf_St) :=
  (f_X10_hasBoth (kf_rf v0 1) v1 v2 σ).bind fun q_1 =>
  if q_1.1 = 0 then
    some ((-1), q_1.2)
  else
    f_X11_same_19 kf_F v0 v1 v2 0 0 q_1.2
set_option maxRecDepth 100000 in
set_option maxHeartbeats 4000000 in
theorem c_X11_same {G : kf_G} (hty : kf_wt G) (v0 : Nat) (v1 : Int32) (v2 : Int32) (k_v0 : kf_kd G v0 = 12) (σ : kf_St) {q : (Int32 × kf_St)} (h : f_X11_same v0 v1 v2 σ = some q) : kf_Ct (3) yX11_same cX11_same 5 (some .int) G [.ref (kf_ad G v0), .int v1, .int v2] σ (some (.int q.1)) q.2 := by
  refine kf_Ct.of hty.1 (lv := [(0, .ref (kf_ad G v0)), (1, .int v1), (2, .int v2)]) (by decide +kernel) rfl (Nat.le_of_ble_eq_true rfl) (fun X E => ?_)
  unfold f_X11_same at h
  refine wa_aload_n 0 rfl E d_X11_same_0 ?_
  refine wa_getR fl_X11_19 k_v0 rfl E d_X11_same_1 ?_
  refine wa_iload_n 1 rfl E d_X11_same_4 ?_
  refine wa_iload_n 2 rfl E d_X11_same_5 ?_
  obtain ⟨q_1, hq_1, h⟩ := kf_bd h
  refine wa_callV (st2 := [.int q_1.1]) (c_X10_hasBoth hty (kf_rf v0 1) v1 v2 (kf_wtf hty 1 10 k_v0 (by decide) rfl) σ hq_1) mv_X10_hasBoth ml_X11_187 (kf_wtf hty 1 10 k_v0 (by decide) rfl) rfl (Nat.le_of_ble_eq_true rfl) rfl (Nat.le_of_ble_eq_true rfl) E d_X11_same_6 rfl ?_
  refine wa_if_ne E d_X11_same_9 (fun c_2 => ?_) (fun c_2 => ?_)
  · replace h := kf_iff c_2 h
    refine wa_iconst 0 ic_0 E d_X11_same_14 ?_
    refine wa_istore_n (lv' := [(3, .int 0), (0, .ref (kf_ad G v0)), (1, .int v1), (2, .int v2)]) rfl (by decide) rfl E d_X11_same_15 ?_
    refine wa_iconst 0 ic_0 E d_X11_same_16 ?_
    refine wa_istore (lv' := [(4, .int 0), (3, .int 0), (0, .ref (kf_ad G v0)), (1, .int v1), (2, .int v2)]) (by decide) rfl E d_X11_same_17 ?_
    refine wa_sub [2, 3, 4, 1, 0] rfl ?_
    exact b_X11_same_19 E hty kf_F v0 v1 v2 0 0 k_v0 q_1.2 h
  · replace h := kf_ift c_2 h
    refine wa_iconst (-1) ic_m1 E d_X11_same_12 ?_
    cases h
    exact wa_iret E d_X11_same_13
/-! X11_shift -/
theorem d_X11_shift_0 : kf_dq cX11_shift 0 1 1 (.aload_n 0) := ⟨by decide +kernel, rfl⟩
theorem d_X11_shift_1 : kf_dq cX11_shift 1 4 3 (.getfield 19) := ⟨by decide +kernel, rfl⟩
theorem d_X11_shift_4 : kf_dq cX11_shift 4 5 1 (.iload_n 1) := ⟨by decide +kernel, rfl⟩
theorem d_X11_shift_5 : kf_dq cX11_shift 5 8 3 (.invokevirtual 116) := ⟨by decide +kernel, rfl⟩
theorem d_X11_shift_8 : kf_dj cX11_shift 8 11 21 (.ifCond .eq) := ⟨13, by decide +kernel, rfl, by decide⟩
theorem d_X11_shift_11 : kf_dq cX11_shift 11 12 1 (.iload_n 2) := ⟨by decide +kernel, rfl⟩
theorem d_X11_shift_12 : kf_dj cX11_shift 12 15 21 (.ifCond .lt) := ⟨9, by decide +kernel, rfl, by decide⟩
theorem d_X11_shift_15 : kf_dq cX11_shift 15 16 1 (.iload_n 2) := ⟨by decide +kernel, rfl⟩
theorem d_X11_shift_16 : kf_dq cX11_shift 16 18 2 (.bipush 60) := ⟨by decide +kernel, rfl⟩
theorem d_X11_shift_18 : kf_dj cX11_shift 18 21 23 (.if_icmp .le) := ⟨5, by decide +kernel, rfl, by decide⟩
theorem d_X11_shift_21 : kf_dq cX11_shift 21 22 1 (.iconst (-1)) := ⟨by decide +kernel, rfl⟩
theorem d_X11_shift_22 : kf_dq cX11_shift 22 23 1 (.ireturn) := ⟨by decide +kernel, rfl⟩
theorem d_X11_shift_23 : kf_dq cX11_shift 23 24 1 (.aload_n 0) := ⟨by decide +kernel, rfl⟩
theorem d_X11_shift_24 : kf_dq cX11_shift 24 27 3 (.getfield 63) := ⟨by decide +kernel, rfl⟩
theorem d_X11_shift_27 : kf_dq cX11_shift 27 28 1 (.iload_n 1) := ⟨by decide +kernel, rfl⟩
theorem d_X11_shift_28 : kf_dq cX11_shift 28 29 1 (.iload_n 2) := ⟨by decide +kernel, rfl⟩
theorem d_X11_shift_29 : kf_dq cX11_shift 29 30 1 (.aload_n 0) := ⟨by decide +kernel, rfl⟩
theorem d_X11_shift_30 : kf_dq cX11_shift 30 33 3 (.getfield 38) := ⟨by decide +kernel, rfl⟩
theorem d_X11_shift_33 : kf_dq cX11_shift 33 36 3 (.getfield 177) := ⟨by decide +kernel, rfl⟩
theorem d_X11_shift_36 : kf_dq cX11_shift 36 37 1 (.iconst (-1)) := ⟨by decide +kernel, rfl⟩
theorem d_X11_shift_37 : kf_dq cX11_shift 37 40 3 (.invokevirtual 248) := ⟨by decide +kernel, rfl⟩
theorem d_X11_shift_40 : kf_dq cX11_shift 40 43 3 (.getfield 123) := ⟨by decide +kernel, rfl⟩
theorem d_X11_shift_43 : kf_dq cX11_shift 43 44 1 (.astore_n 3) := ⟨by decide +kernel, rfl⟩
theorem d_X11_shift_44 : kf_dq cX11_shift 44 45 1 (.aload_n 3) := ⟨by decide +kernel, rfl⟩
theorem d_X11_shift_45 : kf_dq cX11_shift 45 46 1 (.iconst 0) := ⟨by decide +kernel, rfl⟩
theorem d_X11_shift_46 : kf_dq cX11_shift 46 47 1 (.aload_n 0) := ⟨by decide +kernel, rfl⟩
theorem d_X11_shift_47 : kf_dq cX11_shift 47 50 3 (.getfield 38) := ⟨by decide +kernel, rfl⟩
theorem d_X11_shift_50 : kf_dq cX11_shift 50 53 3 (.getfield 119) := ⟨by decide +kernel, rfl⟩
theorem d_X11_shift_53 : kf_dq cX11_shift 53 54 1 (.iload_n 1) := ⟨by decide +kernel, rfl⟩
theorem d_X11_shift_54 : kf_dq cX11_shift 54 55 1 (.aaload) := ⟨by decide +kernel, rfl⟩
theorem d_X11_shift_55 : kf_dq cX11_shift 55 58 3 (.getfield 123) := ⟨by decide +kernel, rfl⟩
theorem d_X11_shift_58 : kf_dq cX11_shift 58 59 1 (.iconst 0) := ⟨by decide +kernel, rfl⟩
theorem d_X11_shift_59 : kf_dq cX11_shift 59 62 3 (.invokestatic 288) := ⟨by decide +kernel, rfl⟩
theorem d_X11_shift_62 : kf_dq cX11_shift 62 63 1 (.ireturn) := ⟨by decide +kernel, rfl⟩
def f_X11_shift (v0 : Nat) (v1 : Int32) (v2 : Int32) (σ : kf_St) : Option (Int32 × kf_St) :=
  (f_X10_hasDoor (kf_rf v0 1) v1 σ).bind fun q_1 =>
  if q_1.1 = 0 then
    some ((-1), q_1.2)
  else
    if v2 < 0 then
      some ((-1), q_1.2)
    else
      if v2 ≤ 60 then
        (f_X0_after (kf_rf v0 7) v1 v2 (q_1.2.1 (kf_rf v0 4) 2) (-1) q_1.2).bind fun q_5 =>
        if kf_ix v1 (kf_ln (kf_rf (kf_rf v0 4) 0)) = true then
        (f_X10_difference (kf_rf (kf_rf (kf_rf v0 7) 3) 0) 0 (kf_rf (kf_rf (kf_rf (kf_rf v0 4) 0) (Int32.toNatClampNeg v1)) 0) 0 q_5).bind fun q_7 =>
        some (q_7.1, q_7.2)
        else none
      else
        some ((-1), q_1.2)
set_option maxRecDepth 100000 in
set_option maxHeartbeats 4000000 in
theorem c_X11_shift {G : kf_G} (hty : kf_wt G) (v0 : Nat) (v1 : Int32) (v2 : Int32) (k_v0 : kf_kd G v0 = 12) (σ : kf_St) {q : (Int32 × kf_St)} (h : f_X11_shift v0 v1 v2 σ = some q) : kf_Ct (8) yX11_shift cX11_shift 4 (some .int) G [.ref (kf_ad G v0), .int v1, .int v2] σ (some (.int q.1)) q.2 := by
  refine kf_Ct.of hty.1 (lv := [(0, .ref (kf_ad G v0)), (1, .int v1), (2, .int v2)]) (by decide +kernel) rfl (Nat.le_of_ble_eq_true rfl) (fun X E => ?_)
  unfold f_X11_shift at h
  refine wa_aload_n 0 rfl E d_X11_shift_0 ?_
  refine wa_getR fl_X11_19 k_v0 rfl E d_X11_shift_1 ?_
  refine wa_iload_n 1 rfl E d_X11_shift_4 ?_
  obtain ⟨q_1, hq_1, h⟩ := kf_bd h
  refine wa_callV (st2 := [.int q_1.1]) (c_X10_hasDoor hty (kf_rf v0 1) v1 (kf_wtf hty 1 10 k_v0 (by decide) rfl) σ hq_1) mv_X10_hasDoor ml_X11_116 (kf_wtf hty 1 10 k_v0 (by decide) rfl) rfl (Nat.le_of_ble_eq_true rfl) rfl (Nat.le_of_ble_eq_true rfl) E d_X11_shift_5 rfl ?_
  refine wa_if_eq E d_X11_shift_8 (fun c_2 => ?_) (fun c_2 => ?_)
  · replace h := kf_ift c_2 h
    refine wa_iconst (-1) ic_m1 E d_X11_shift_21 ?_
    cases h
    exact wa_iret E d_X11_shift_22
  · replace h := kf_iff c_2 h
    refine wa_iload_n 2 rfl E d_X11_shift_11 ?_
    refine wa_if_lt E d_X11_shift_12 (fun c_3 => ?_) (fun c_3 => ?_)
    · replace h := kf_ift c_3 h
      refine wa_iconst (-1) ic_m1 E d_X11_shift_21 ?_
      cases h
      exact wa_iret E d_X11_shift_22
    · replace h := kf_iff c_3 h
      refine wa_iload_n 2 rfl E d_X11_shift_15 ?_
      refine wa_bipush 60 bp_60 E d_X11_shift_16 ?_
      refine wa_icmp_le E d_X11_shift_18 (fun c_4 => ?_) (fun c_4 => ?_)
      · replace h := kf_ift c_4 h
        refine wa_aload_n 0 rfl E d_X11_shift_23 ?_
        refine wa_getR fl_X11_63 k_v0 rfl E d_X11_shift_24 ?_
        refine wa_iload_n 1 rfl E d_X11_shift_27 ?_
        refine wa_iload_n 2 rfl E d_X11_shift_28 ?_
        refine wa_aload_n 0 rfl E d_X11_shift_29 ?_
        refine wa_getR fl_X11_38 k_v0 rfl E d_X11_shift_30 ?_
        refine wa_getI fl_X11_177 (kf_wtf hty 4 7 k_v0 (by decide) rfl) rfl E d_X11_shift_33 ?_
        refine wa_iconst (-1) ic_m1 E d_X11_shift_36 ?_
        obtain ⟨q_5, hq_5, h⟩ := kf_bd h
        refine wa_callV (st2 := [.ref (kf_ad G (kf_rf (kf_rf v0 7) 3))]) (c_X0_after hty (kf_rf v0 7) v1 v2 (q_1.2.1 (kf_rf v0 4) 2) (-1) (kf_wtf hty 7 0 k_v0 (by decide) rfl) q_1.2 hq_5) mv_X0_after ml_X11_248 (kf_wtf hty 7 0 k_v0 (by decide) rfl) rfl (Nat.le_of_ble_eq_true rfl) rfl (Nat.le_of_ble_eq_true rfl) E d_X11_shift_37 rfl ?_
        refine wa_getR fl_X11_123 (kf_wtf hty 3 1 (kf_wtf hty 7 0 k_v0 (by decide) rfl) (by decide) rfl) rfl E d_X11_shift_40 ?_
        refine wa_astore_n (lv' := [(3, .ref (kf_ad G (kf_rf (kf_rf (kf_rf v0 7) 3) 0))), (0, .ref (kf_ad G v0)), (1, .int v1), (2, .int v2)]) rfl (by decide) rfl E d_X11_shift_43 ?_
        refine wa_aload_n 0 rfl E d_X11_shift_44 ?_
        refine wa_iconst 0 ic_0 E d_X11_shift_45 ?_
        refine wa_aload_n 1 rfl E d_X11_shift_46 ?_
        refine wa_getR fl_X11_38 k_v0 rfl E d_X11_shift_47 ?_
        refine wa_getR fl_X11_119 (kf_wtf hty 4 7 k_v0 (by decide) rfl) rfl E d_X11_shift_50 ?_
        refine wa_iload_n 2 rfl E d_X11_shift_53 ?_
        obtain ⟨g_6, h⟩ := kf_gd h
        refine wa_aald (kf_wtf hty 0 53 (kf_wtf hty 4 7 k_v0 (by decide) rfl) (by decide) rfl) g_6 E d_X11_shift_54 ?_
        refine wa_getR fl_X11_123 (kf_wta hty (kf_wtf hty 0 53 (kf_wtf hty 4 7 k_v0 (by decide) rfl) (by decide) rfl) g_6) rfl E d_X11_shift_55 ?_
        refine wa_iconst 0 ic_0 E d_X11_shift_58 ?_
        obtain ⟨q_7, hq_7, h⟩ := kf_bd h
        refine wa_callS (st2 := [.int q_7.1]) (c_X10_difference hty (kf_rf (kf_rf (kf_rf v0 7) 3) 0) 0 (kf_rf (kf_rf (kf_rf (kf_rf v0 4) 0) (Int32.toNatClampNeg v1)) 0) 0 (kf_wtf hty 0 49 (kf_wtf hty 3 1 (kf_wtf hty 7 0 k_v0 (by decide) rfl) (by decide) rfl) (by decide) rfl) (kf_wtf hty 0 49 (kf_wta hty (kf_wtf hty 0 53 (kf_wtf hty 4 7 k_v0 (by decide) rfl) (by decide) rfl) g_6) (by decide) rfl) q_5 hq_7) mt_X10_difference ml_X11_288 rfl (Nat.le_of_ble_eq_true rfl) rfl (Nat.le_of_ble_eq_true rfl) E d_X11_shift_59 rfl ?_
        cases h
        exact wa_iret E d_X11_shift_62
      · replace h := kf_iff c_4 h
        refine wa_iconst (-1) ic_m1 E d_X11_shift_21 ?_
        cases h
        exact wa_iret E d_X11_shift_22
/-! X11_liftsDue -/
theorem d_X11_liftsDue_0 : kf_dq cX11_liftsDue 0 1 1 (.iconst 0) := ⟨by decide +kernel, rfl⟩
theorem d_X11_liftsDue_1 : kf_dq cX11_liftsDue 1 2 1 (.istore_n 3) := ⟨by decide +kernel, rfl⟩
theorem d_X11_liftsDue_2 : kf_dq cX11_liftsDue 2 3 1 (.iconst 0) := ⟨by decide +kernel, rfl⟩
theorem d_X11_liftsDue_3 : kf_dq cX11_liftsDue 3 5 2 (.istore 4) := ⟨by decide +kernel, rfl⟩
theorem d_X11_liftsDue_5 : kf_dq cX11_liftsDue 5 7 2 (.iload 4) := ⟨by decide +kernel, rfl⟩
theorem d_X11_liftsDue_7 : kf_dq cX11_liftsDue 7 8 1 (.iload_n 2) := ⟨by decide +kernel, rfl⟩
theorem d_X11_liftsDue_8 : kf_dj cX11_liftsDue 8 11 48 (.if_icmp .ge) := ⟨40, by decide +kernel, rfl, by decide⟩
theorem d_X11_liftsDue_11 : kf_dq cX11_liftsDue 11 12 1 (.aload_n 0) := ⟨by decide +kernel, rfl⟩
theorem d_X11_liftsDue_12 : kf_dq cX11_liftsDue 12 15 3 (.getfield 19) := ⟨by decide +kernel, rfl⟩
theorem d_X11_liftsDue_15 : kf_dq cX11_liftsDue 15 16 1 (.iload_n 1) := ⟨by decide +kernel, rfl⟩
theorem d_X11_liftsDue_16 : kf_dq cX11_liftsDue 16 17 1 (.aload_n 0) := ⟨by decide +kernel, rfl⟩
theorem d_X11_liftsDue_17 : kf_dq cX11_liftsDue 17 20 3 (.getfield 38) := ⟨by decide +kernel, rfl⟩
theorem d_X11_liftsDue_20 : kf_dq cX11_liftsDue 20 23 3 (.getfield 180) := ⟨by decide +kernel, rfl⟩
theorem d_X11_liftsDue_23 : kf_dq cX11_liftsDue 23 25 2 (.iload 4) := ⟨by decide +kernel, rfl⟩
theorem d_X11_liftsDue_25 : kf_dq cX11_liftsDue 25 26 1 (.iadd) := ⟨by decide +kernel, rfl⟩
theorem d_X11_liftsDue_26 : kf_dq cX11_liftsDue 26 27 1 (.aload_n 0) := ⟨by decide +kernel, rfl⟩
theorem d_X11_liftsDue_27 : kf_dq cX11_liftsDue 27 30 3 (.getfield 38) := ⟨by decide +kernel, rfl⟩
theorem d_X11_liftsDue_30 : kf_dq cX11_liftsDue 30 33 3 (.getfield 177) := ⟨by decide +kernel, rfl⟩
theorem d_X11_liftsDue_33 : kf_dq cX11_liftsDue 33 36 3 (.invokevirtual 342) := ⟨by decide +kernel, rfl⟩
theorem d_X11_liftsDue_36 : kf_dj cX11_liftsDue 36 39 42 (.ifCond .eq) := ⟨6, by decide +kernel, rfl, by decide⟩
theorem d_X11_liftsDue_39 : kf_dq cX11_liftsDue 39 42 3 (.iinc 3 1) := ⟨by decide +kernel, rfl⟩
theorem d_X11_liftsDue_42 : kf_dq cX11_liftsDue 42 45 3 (.iinc 4 1) := ⟨by decide +kernel, rfl⟩
theorem d_X11_liftsDue_45 : kf_dj cX11_liftsDue 45 48 5 .goto := ⟨(-40), by decide +kernel, rfl, by decide⟩
theorem d_X11_liftsDue_48 : kf_dq cX11_liftsDue 48 49 1 (.iload_n 3) := ⟨by decide +kernel, rfl⟩
theorem d_X11_liftsDue_49 : kf_dq cX11_liftsDue 49 50 1 (.ireturn) := ⟨by decide +kernel, rfl⟩
def f_X11_liftsDue_42 (rec5 : Nat → Int32 → Int32 → Int32 → Int32 → kf_St → Option (Int32 × kf_St)) (v0 : Nat) (v1 : Int32) (v2 : Int32) (v3 : Int32) (v4 : Int32) (σ : kf_St) : Option (Int32 × kf_St) :=
  kf_lt (v4 + 1) fun v4_1 =>
  rec5 v0 v1 v2 v3 v4_1 σ
set_option maxRecDepth 100000 in
set_option maxHeartbeats 4000000 in
theorem b_X11_liftsDue_42 {X : kf_X} {G : kf_G} {rec5 : Nat → Int32 → Int32 → Int32 → Int32 → kf_St → Option (Int32 × kf_St)} {q : (Int32 × kf_St)} (E : kf_ok X G cX11_liftsDue RX11 5 (some .int) (3)) (hty : kf_wt G) (hrec5 : ∀ (v0 : Nat) (v1 : Int32) (v2 : Int32) (v3 : Int32) (v4 : Int32) (k_v0 : kf_kd G v0 = 12) (σ : kf_St), rec5 v0 v1 v2 v3 v4 σ = some q → kf_WA X G 5 (kf_Q X G (some (.int q.1)) q.2) 5 [(0, .ref (kf_ad G v0)), (1, .int v1), (2, .int v2), (3, .int v3), (4, .int v4)] [] σ) (v0 : Nat) (v1 : Int32) (v2 : Int32) (v3 : Int32) (v4 : Int32) (k_v0 : kf_kd G v0 = 12) (σ : kf_St) (h : f_X11_liftsDue_42 rec5 v0 v1 v2 v3 v4 σ = some q) : kf_WA X G 5 (kf_Q X G (some (.int q.1)) q.2) 42 [(0, .ref (kf_ad G v0)), (1, .int v1), (2, .int v2), (3, .int v3), (4, .int v4)] [] σ := by
  unfold f_X11_liftsDue_42 at h
  obtain ⟨v4_1, ev4_1, h⟩ := kf_lte h
  refine wa_iinc (lv' := [(4, .int v4_1), (0, .ref (kf_ad G v0)), (1, .int v1), (2, .int v2), (3, .int v3)]) v4_1 4 rfl (kf_inc ic_1 ev4_1) (by decide) rfl E d_X11_liftsDue_42 ?_
  refine wa_goto E d_X11_liftsDue_45 ?_
  refine wa_sub [1, 2, 3, 4, 0] rfl ?_
  exact hrec5 v0 v1 v2 v3 v4_1 k_v0 σ h
def f_X11_liftsDue_5_s (rec5 : Nat → Int32 → Int32 → Int32 → Int32 → kf_St → Option (Int32 × kf_St)) (v0 : Nat) (v1 : Int32) (v2 : Int32) (v3 : Int32) (v4 : Int32) (σ : kf_St) : Option (Int32 × kf_St) :=
  if v2 ≤ v4 then
    some (v3, σ)
  else
    (f_X10_comes (kf_rf v0 1) v1 ((σ.1 (kf_rf v0 4) 3) + v4) (σ.1 (kf_rf v0 4) 2) σ).bind fun q_2 =>
    if q_2.1 = 0 then
      f_X11_liftsDue_42 rec5 v0 v1 v2 v3 v4 q_2.2
    else
      kf_lt (v3 + 1) fun v3_4 =>
      f_X11_liftsDue_42 rec5 v0 v1 v2 v3_4 v4 q_2.2
def f_X11_liftsDue_5 : Nat → Nat → Int32 → Int32 → Int32 → Int32 → kf_St → Option (Int32 × kf_St)
  | 0, _, _, _, _, _, _ => none
  | n + 1, v0, v1, v2, v3, v4, σ => f_X11_liftsDue_5_s (f_X11_liftsDue_5 n) v0 v1 v2 v3 v4 σ
set_option maxRecDepth 100000 in
set_option maxHeartbeats 4000000 in
theorem b_X11_liftsDue_5_s {X : kf_X} {G : kf_G} (rec5 : Nat → Int32 → Int32 → Int32 → Int32 → kf_St → Option (Int32 × kf_St)) {q : (Int32 × kf_St)} (E : kf_ok X G cX11_liftsDue RX11 5 (some .int) (3)) (hty : kf_wt G) (hrec5 : ∀ (v0 : Nat) (v1 : Int32) (v2 : Int32) (v3 : Int32) (v4 : Int32) (k_v0 : kf_kd G v0 = 12) (σ : kf_St), rec5 v0 v1 v2 v3 v4 σ = some q → kf_WA X G 5 (kf_Q X G (some (.int q.1)) q.2) 5 [(0, .ref (kf_ad G v0)), (1, .int v1), (2, .int v2), (3, .int v3), (4, .int v4)] [] σ) (v0 : Nat) (v1 : Int32) (v2 : Int32) (v3 : Int32) (v4 : Int32) (k_v0 : kf_kd G v0 = 12) (σ : kf_St) (h : f_X11_liftsDue_5_s rec5 v0 v1 v2 v3 v4 σ = some q) : kf_WA X G 5 (kf_Q X G (some (.int q.1)) q.2) 5 [(0, .ref (kf_ad G v0)), (1, .int v1), (2, .int v2), (3, .int v3), (4, .int v4)] [] σ := by
  unfold f_X11_liftsDue_5_s at h
  refine wa_iload 4 rfl E d_X11_liftsDue_5 ?_
  refine wa_iload_n 2 rfl E d_X11_liftsDue_7 ?_
  refine wa_icmp_ge E d_X11_liftsDue_8 (fun c_1 => ?_) (fun c_1 => ?_)
  · replace h := kf_ift c_1 h
    refine wa_iload_n 3 rfl E d_X11_liftsDue_48 ?_
    cases h
    exact wa_iret E d_X11_liftsDue_49
  · replace h := kf_iff c_1 h
    refine wa_aload_n 0 rfl E d_X11_liftsDue_11 ?_
    refine wa_getR fl_X11_19 k_v0 rfl E d_X11_liftsDue_12 ?_
    refine wa_iload_n 1 rfl E d_X11_liftsDue_15 ?_
    refine wa_aload_n 0 rfl E d_X11_liftsDue_16 ?_
    refine wa_getR fl_X11_38 k_v0 rfl E d_X11_liftsDue_17 ?_
    refine wa_getI fl_X11_180 (kf_wtf hty 4 7 k_v0 (by decide) rfl) rfl E d_X11_liftsDue_20 ?_
    refine wa_iload 4 rfl E d_X11_liftsDue_23 ?_
    refine wa_iadd E d_X11_liftsDue_25 ?_
    refine wa_aload_n 0 rfl E d_X11_liftsDue_26 ?_
    refine wa_getR fl_X11_38 k_v0 rfl E d_X11_liftsDue_27 ?_
    refine wa_getI fl_X11_177 (kf_wtf hty 4 7 k_v0 (by decide) rfl) rfl E d_X11_liftsDue_30 ?_
    obtain ⟨q_2, hq_2, h⟩ := kf_bd h
    refine wa_callV (st2 := [.int q_2.1]) (c_X10_comes hty (kf_rf v0 1) v1 ((σ.1 (kf_rf v0 4) 3) + v4) (σ.1 (kf_rf v0 4) 2) (kf_wtf hty 1 10 k_v0 (by decide) rfl) σ hq_2) mv_X10_comes ml_X11_342 (kf_wtf hty 1 10 k_v0 (by decide) rfl) rfl (Nat.le_of_ble_eq_true rfl) rfl (Nat.le_of_ble_eq_true rfl) E d_X11_liftsDue_33 rfl ?_
    refine wa_if_eq E d_X11_liftsDue_36 (fun c_3 => ?_) (fun c_3 => ?_)
    · replace h := kf_ift c_3 h
      exact b_X11_liftsDue_42 E hty hrec5 v0 v1 v2 v3 v4 k_v0 q_2.2 h
    · replace h := kf_iff c_3 h
      obtain ⟨v3_4, ev3_4, h⟩ := kf_lte h
      refine wa_iinc (lv' := [(3, .int v3_4), (0, .ref (kf_ad G v0)), (1, .int v1), (2, .int v2), (4, .int v4)]) v3_4 3 rfl (kf_inc ic_1 ev3_4) (by decide) rfl E d_X11_liftsDue_39 ?_
      refine wa_sub [1, 2, 3, 0, 4] rfl ?_
      exact b_X11_liftsDue_42 E hty hrec5 v0 v1 v2 v3_4 v4 k_v0 q_2.2 h
theorem b_X11_liftsDue_5 {X : kf_X} {G : kf_G} {q : (Int32 × kf_St)} (E : kf_ok X G cX11_liftsDue RX11 5 (some .int) (3)) (hty : kf_wt G) : ∀ (N : Nat) (v0 : Nat) (v1 : Int32) (v2 : Int32) (v3 : Int32) (v4 : Int32) (k_v0 : kf_kd G v0 = 12) (σ : kf_St) (_ : f_X11_liftsDue_5 N v0 v1 v2 v3 v4 σ = some q), kf_WA X G 5 (kf_Q X G (some (.int q.1)) q.2) 5 [(0, .ref (kf_ad G v0)), (1, .int v1), (2, .int v2), (3, .int v3), (4, .int v4)] [] σ
  | 0, _, _, _, _, _, _, _, h => by cases h
  | N + 1, v0, v1, v2, v3, v4, k_v0, σ, h => b_X11_liftsDue_5_s _ E hty (b_X11_liftsDue_5 E hty N) v0 v1 v2 v3 v4 k_v0 σ h
def f_X11_liftsDue (v0 : Nat) (v1 : Int32) (v2 : Int32) (σ : kf_St) : Option (Int32 × kf_St) :=
  f_X11_liftsDue_5 kf_F v0 v1 v2 0 0 σ
set_option maxRecDepth 100000 in
set_option maxHeartbeats 4000000 in
theorem c_X11_liftsDue {G : kf_G} (hty : kf_wt G) (v0 : Nat) (v1 : Int32) (v2 : Int32) (k_v0 : kf_kd G v0 = 12) (σ : kf_St) {q : (Int32 × kf_St)} (h : f_X11_liftsDue v0 v1 v2 σ = some q) : kf_Ct (3) yX11_liftsDue cX11_liftsDue 5 (some .int) G [.ref (kf_ad G v0), .int v1, .int v2] σ (some (.int q.1)) q.2 := by
  refine kf_Ct.of hty.1 (lv := [(0, .ref (kf_ad G v0)), (1, .int v1), (2, .int v2)]) (by decide +kernel) rfl (Nat.le_of_ble_eq_true rfl) (fun X E => ?_)
  unfold f_X11_liftsDue at h
  refine wa_iconst 0 ic_0 E d_X11_liftsDue_0 ?_
  refine wa_istore_n (lv' := [(3, .int 0), (0, .ref (kf_ad G v0)), (1, .int v1), (2, .int v2)]) rfl (by decide) rfl E d_X11_liftsDue_1 ?_
  refine wa_iconst 0 ic_0 E d_X11_liftsDue_2 ?_
  refine wa_istore (lv' := [(4, .int 0), (3, .int 0), (0, .ref (kf_ad G v0)), (1, .int v1), (2, .int v2)]) (by decide) rfl E d_X11_liftsDue_3 ?_
  refine wa_sub [2, 3, 4, 1, 0] rfl ?_
  exact b_X11_liftsDue_5 E hty kf_F v0 v1 v2 0 0 k_v0 σ h
/-! X11_calls -/
theorem d_X11_calls_0 : kf_dq cX11_calls 0 1 1 (.aload_n 0) := ⟨by decide +kernel, rfl⟩
theorem d_X11_calls_1 : kf_dq cX11_calls 1 4 3 (.getfield 19) := ⟨by decide +kernel, rfl⟩
theorem d_X11_calls_4 : kf_dq cX11_calls 4 5 1 (.iload_n 1) := ⟨by decide +kernel, rfl⟩
theorem d_X11_calls_5 : kf_dq cX11_calls 5 8 3 (.invokevirtual 116) := ⟨by decide +kernel, rfl⟩
theorem d_X11_calls_8 : kf_dj cX11_calls 8 11 22 (.ifCond .eq) := ⟨14, by decide +kernel, rfl, by decide⟩
theorem d_X11_calls_11 : kf_dq cX11_calls 11 12 1 (.iload_n 2) := ⟨by decide +kernel, rfl⟩
theorem d_X11_calls_12 : kf_dq cX11_calls 12 13 1 (.iconst 1) := ⟨by decide +kernel, rfl⟩
theorem d_X11_calls_13 : kf_dj cX11_calls 13 16 22 (.if_icmp .lt) := ⟨9, by decide +kernel, rfl, by decide⟩
theorem d_X11_calls_16 : kf_dq cX11_calls 16 17 1 (.iload_n 2) := ⟨by decide +kernel, rfl⟩
theorem d_X11_calls_17 : kf_dq cX11_calls 17 19 2 (.bipush 60) := ⟨by decide +kernel, rfl⟩
theorem d_X11_calls_19 : kf_dj cX11_calls 19 22 24 (.if_icmp .le) := ⟨5, by decide +kernel, rfl, by decide⟩
theorem d_X11_calls_22 : kf_dq cX11_calls 22 23 1 (.iconst (-1)) := ⟨by decide +kernel, rfl⟩
theorem d_X11_calls_23 : kf_dq cX11_calls 23 24 1 (.ireturn) := ⟨by decide +kernel, rfl⟩
theorem d_X11_calls_24 : kf_dq cX11_calls 24 25 1 (.iconst 0) := ⟨by decide +kernel, rfl⟩
theorem d_X11_calls_25 : kf_dq cX11_calls 25 26 1 (.istore_n 3) := ⟨by decide +kernel, rfl⟩
theorem d_X11_calls_26 : kf_dq cX11_calls 26 27 1 (.iconst 0) := ⟨by decide +kernel, rfl⟩
theorem d_X11_calls_27 : kf_dq cX11_calls 27 29 2 (.istore 4) := ⟨by decide +kernel, rfl⟩
theorem d_X11_calls_29 : kf_dq cX11_calls 29 31 2 (.iload 4) := ⟨by decide +kernel, rfl⟩
theorem d_X11_calls_31 : kf_dq cX11_calls 31 32 1 (.aload_n 0) := ⟨by decide +kernel, rfl⟩
theorem d_X11_calls_32 : kf_dq cX11_calls 32 35 3 (.getfield 19) := ⟨by decide +kernel, rfl⟩
theorem d_X11_calls_35 : kf_dq cX11_calls 35 38 3 (.getfield 292) := ⟨by decide +kernel, rfl⟩
theorem d_X11_calls_38 : kf_dj cX11_calls 38 41 71 (.if_icmp .ge) := ⟨33, by decide +kernel, rfl, by decide⟩
theorem d_X11_calls_41 : kf_dq cX11_calls 41 42 1 (.aload_n 0) := ⟨by decide +kernel, rfl⟩
theorem d_X11_calls_42 : kf_dq cX11_calls 42 45 3 (.getfield 19) := ⟨by decide +kernel, rfl⟩
theorem d_X11_calls_45 : kf_dq cX11_calls 45 48 3 (.getfield 168) := ⟨by decide +kernel, rfl⟩
theorem d_X11_calls_48 : kf_dq cX11_calls 48 50 2 (.iload 4) := ⟨by decide +kernel, rfl⟩
theorem d_X11_calls_50 : kf_dq cX11_calls 50 51 1 (.iaload) := ⟨by decide +kernel, rfl⟩
theorem d_X11_calls_51 : kf_dq cX11_calls 51 52 1 (.iload_n 1) := ⟨by decide +kernel, rfl⟩
theorem d_X11_calls_52 : kf_dj cX11_calls 52 55 65 (.if_icmp .ne) := ⟨13, by decide +kernel, rfl, by decide⟩
theorem d_X11_calls_55 : kf_dq cX11_calls 55 56 1 (.iload_n 3) := ⟨by decide +kernel, rfl⟩
theorem d_X11_calls_56 : kf_dq cX11_calls 56 57 1 (.aload_n 0) := ⟨by decide +kernel, rfl⟩
theorem d_X11_calls_57 : kf_dq cX11_calls 57 59 2 (.iload 4) := ⟨by decide +kernel, rfl⟩
theorem d_X11_calls_59 : kf_dq cX11_calls 59 60 1 (.iload_n 2) := ⟨by decide +kernel, rfl⟩
theorem d_X11_calls_60 : kf_dq cX11_calls 60 63 3 (.invokevirtual 295) := ⟨by decide +kernel, rfl⟩
theorem d_X11_calls_63 : kf_dq cX11_calls 63 64 1 (.iadd) := ⟨by decide +kernel, rfl⟩
theorem d_X11_calls_64 : kf_dq cX11_calls 64 65 1 (.istore_n 3) := ⟨by decide +kernel, rfl⟩
theorem d_X11_calls_65 : kf_dq cX11_calls 65 68 3 (.iinc 4 1) := ⟨by decide +kernel, rfl⟩
theorem d_X11_calls_68 : kf_dj cX11_calls 68 71 29 .goto := ⟨(-39), by decide +kernel, rfl, by decide⟩
theorem d_X11_calls_71 : kf_dq cX11_calls 71 72 1 (.iload_n 3) := ⟨by decide +kernel, rfl⟩
theorem d_X11_calls_72 : kf_dq cX11_calls 72 73 1 (.ireturn) := ⟨by decide +kernel, rfl⟩
def f_X11_calls_65 (rec29 : Nat → Int32 → Int32 → Int32 → Int32 → kf_St → Option (Int32 × kf_St)) (v0 : Nat) (v1 : Int32) (v2 : Int32) (v3 : Int32) (v4 : Int32) (σ : kf_St) : Option (Int32 × kf_St) :=
  kf_lt (v4 + 1) fun v4_1 =>
  rec29 v0 v1 v2 v3 v4_1 σ
set_option maxRecDepth 100000 in
set_option maxHeartbeats 4000000 in
theorem b_X11_calls_65 {X : kf_X} {G : kf_G} {rec29 : Nat → Int32 → Int32 → Int32 → Int32 → kf_St → Option (Int32 × kf_St)} {q : (Int32 × kf_St)} (E : kf_ok X G cX11_calls RX11 5 (some .int) (4)) (hty : kf_wt G) (hrec29 : ∀ (v0 : Nat) (v1 : Int32) (v2 : Int32) (v3 : Int32) (v4 : Int32) (k_v0 : kf_kd G v0 = 12) (σ : kf_St), rec29 v0 v1 v2 v3 v4 σ = some q → kf_WA X G 5 (kf_Q X G (some (.int q.1)) q.2) 29 [(0, .ref (kf_ad G v0)), (1, .int v1), (2, .int v2), (3, .int v3), (4, .int v4)] [] σ) (v0 : Nat) (v1 : Int32) (v2 : Int32) (v3 : Int32) (v4 : Int32) (k_v0 : kf_kd G v0 = 12) (σ : kf_St) (h : f_X11_calls_65 rec29 v0 v1 v2 v3 v4 σ = some q) : kf_WA X G 5 (kf_Q X G (some (.int q.1)) q.2) 65 [(0, .ref (kf_ad G v0)), (1, .int v1), (2, .int v2), (3, .int v3), (4, .int v4)] [] σ := by
  unfold f_X11_calls_65 at h
  obtain ⟨v4_1, ev4_1, h⟩ := kf_lte h
  refine wa_iinc (lv' := [(4, .int v4_1), (0, .ref (kf_ad G v0)), (1, .int v1), (2, .int v2), (3, .int v3)]) v4_1 4 rfl (kf_inc ic_1 ev4_1) (by decide) rfl E d_X11_calls_65 ?_
  refine wa_goto E d_X11_calls_68 ?_
  refine wa_sub [1, 2, 3, 4, 0] rfl ?_
  exact hrec29 v0 v1 v2 v3 v4_1 k_v0 σ h
def f_X11_calls_29_s (rec29 : Nat → Int32 → Int32 → Int32 → Int32 → kf_St → Option (Int32 × kf_St)) (v0 : Nat) (v1 : Int32) (v2 : Int32) (v3 : Int32) (v4 : Int32) (σ : kf_St) : Option (Int32 × kf_St) :=
  if (σ.1 (kf_rf v0 1) 2) ≤ v4 then
    some (v3, σ)
  else
    if kf_ix v4 (kf_ln (kf_rf (kf_rf v0 1) 11)) = true then
    if (σ.1 (kf_rf (kf_rf v0 1) 11) (Int32.toNatClampNeg v4)) = v1 then
      (f_X11_liftsDue v0 v4 v2 σ).bind fun q_4 =>
      kf_lt ((v3 + q_4.1)) fun v3_5 =>
      f_X11_calls_65 rec29 v0 v1 v2 v3_5 v4 q_4.2
    else
      f_X11_calls_65 rec29 v0 v1 v2 v3 v4 σ
    else none
def f_X11_calls_29 : Nat → Nat → Int32 → Int32 → Int32 → Int32 → kf_St → Option (Int32 × kf_St)
  | 0, _, _, _, _, _, _ => none
  | n + 1, v0, v1, v2, v3, v4, σ => f_X11_calls_29_s (f_X11_calls_29 n) v0 v1 v2 v3 v4 σ
set_option maxRecDepth 100000 in
set_option maxHeartbeats 4000000 in
theorem b_X11_calls_29_s {X : kf_X} {G : kf_G} (rec29 : Nat → Int32 → Int32 → Int32 → Int32 → kf_St → Option (Int32 × kf_St)) {q : (Int32 × kf_St)} (E : kf_ok X G cX11_calls RX11 5 (some .int) (4)) (hty : kf_wt G) (hrec29 : ∀ (v0 : Nat) (v1 : Int32) (v2 : Int32) (v3 : Int32) (v4 : Int32) (k_v0 : kf_kd G v0 = 12) (σ : kf_St), rec29 v0 v1 v2 v3 v4 σ = some q → kf_WA X G 5 (kf_Q X G (some (.int q.1)) q.2) 29 [(0, .ref (kf_ad G v0)), (1, .int v1), (2, .int v2), (3, .int v3), (4, .int v4)] [] σ) (v0 : Nat) (v1 : Int32) (v2 : Int32) (v3 : Int32) (v4 : Int32) (k_v0 : kf_kd G v0 = 12) (σ : kf_St) (h : f_X11_calls_29_s rec29 v0 v1 v2 v3 v4 σ = some q) : kf_WA X G 5 (kf_Q X G (some (.int q.1)) q.2) 29 [(0, .ref (kf_ad G v0)), (1, .int v1), (2, .int v2), (3, .int v3), (4, .int v4)] [] σ := by
  unfold f_X11_calls_29_s at h
  refine wa_iload 4 rfl E d_X11_calls_29 ?_
  refine wa_aload_n 0 rfl E d_X11_calls_31 ?_
  refine wa_getR fl_X11_19 k_v0 rfl E d_X11_calls_32 ?_
  refine wa_getI fl_X11_292 (kf_wtf hty 1 10 k_v0 (by decide) rfl) rfl E d_X11_calls_35 ?_
  refine wa_icmp_ge E d_X11_calls_38 (fun c_1 => ?_) (fun c_1 => ?_)
  · replace h := kf_ift c_1 h
    refine wa_iload_n 3 rfl E d_X11_calls_71 ?_
    cases h
    exact wa_iret E d_X11_calls_72
  · replace h := kf_iff c_1 h
    refine wa_aload_n 0 rfl E d_X11_calls_41 ?_
    refine wa_getR fl_X11_19 k_v0 rfl E d_X11_calls_42 ?_
    refine wa_getR fl_X11_168 (kf_wtf hty 1 10 k_v0 (by decide) rfl) rfl E d_X11_calls_45 ?_
    refine wa_iload 4 rfl E d_X11_calls_48 ?_
    obtain ⟨g_2, h⟩ := kf_gd h
    refine wa_iald (kf_wtf hty 11 49 (kf_wtf hty 1 10 k_v0 (by decide) rfl) (by decide) rfl) g_2 E d_X11_calls_50 ?_
    refine wa_iload_n 1 rfl E d_X11_calls_51 ?_
    refine wa_icmp_ne E d_X11_calls_52 (fun c_3 => ?_) (fun c_3 => ?_)
    · replace h := kf_iff c_3 h
      exact b_X11_calls_65 E hty hrec29 v0 v1 v2 v3 v4 k_v0 σ h
    · replace h := kf_ift c_3 h
      refine wa_iload_n 3 rfl E d_X11_calls_55 ?_
      refine wa_aload_n 0 rfl E d_X11_calls_56 ?_
      refine wa_iload 4 rfl E d_X11_calls_57 ?_
      refine wa_iload_n 2 rfl E d_X11_calls_59 ?_
      obtain ⟨q_4, hq_4, h⟩ := kf_bd h
      refine wa_callV (st2 := [.int q_4.1, .int v3]) (c_X11_liftsDue hty v0 v4 v2 k_v0 σ hq_4) mv_X11_liftsDue ml_X11_295 k_v0 rfl (Nat.le_of_ble_eq_true rfl) rfl (Nat.le_of_ble_eq_true rfl) E d_X11_calls_60 rfl ?_
      refine wa_iadd E d_X11_calls_63 ?_
      obtain ⟨v3_5, ev3_5, h⟩ := kf_lte h
      refine wa_topi ev3_5 ?_
      refine wa_istore_n (lv' := [(3, .int v3_5), (0, .ref (kf_ad G v0)), (1, .int v1), (2, .int v2), (4, .int v4)]) rfl (by decide) rfl E d_X11_calls_64 ?_
      refine wa_sub [1, 2, 3, 0, 4] rfl ?_
      exact b_X11_calls_65 E hty hrec29 v0 v1 v2 v3_5 v4 k_v0 q_4.2 h
theorem b_X11_calls_29 {X : kf_X} {G : kf_G} {q : (Int32 × kf_St)} (E : kf_ok X G cX11_calls RX11 5 (some .int) (4)) (hty : kf_wt G) : ∀ (N : Nat) (v0 : Nat) (v1 : Int32) (v2 : Int32) (v3 : Int32) (v4 : Int32) (k_v0 : kf_kd G v0 = 12) (σ : kf_St) (_ : f_X11_calls_29 N v0 v1 v2 v3 v4 σ = some q), kf_WA X G 5 (kf_Q X G (some (.int q.1)) q.2) 29 [(0, .ref (kf_ad G v0)), (1, .int v1), (2, .int v2), (3, .int v3), (4, .int v4)] [] σ
  | 0, _, _, _, _, _, _, _, h => by cases h
  | N + 1, v0, v1, v2, v3, v4, k_v0, σ, h => b_X11_calls_29_s _ E hty (b_X11_calls_29 E hty N) v0 v1 v2 v3 v4 k_v0 σ h
def f_X11_calls (v0 : Nat) (v1 : Int32) (v2 : Int32) (σ : kf_St) : Option (Int32 × kf_St) :=
  (f_X10_hasDoor (kf_rf v0 1) v1 σ).bind fun q_1 =>
  if q_1.1 = 0 then
    some ((-1), q_1.2)
  else
    if v2 < 1 then
      some ((-1), q_1.2)
    else
      if v2 ≤ 60 then
        f_X11_calls_29 kf_F v0 v1 v2 0 0 q_1.2
      else
        some ((-1), q_1.2)
set_option maxRecDepth 100000 in
set_option maxHeartbeats 4000000 in
theorem c_X11_calls {G : kf_G} (hty : kf_wt G) (v0 : Nat) (v1 : Int32) (v2 : Int32) (k_v0 : kf_kd G v0 = 12) (σ : kf_St) {q : (Int32 × kf_St)} (h : f_X11_calls v0 v1 v2 σ = some q) : kf_Ct (4) yX11_calls cX11_calls 5 (some .int) G [.ref (kf_ad G v0), .int v1, .int v2] σ (some (.int q.1)) q.2 := by
  refine kf_Ct.of hty.1 (lv := [(0, .ref (kf_ad G v0)), (1, .int v1), (2, .int v2)]) (by decide +kernel) rfl (Nat.le_of_ble_eq_true rfl) (fun X E => ?_)
  unfold f_X11_calls at h
  refine wa_aload_n 0 rfl E d_X11_calls_0 ?_
  refine wa_getR fl_X11_19 k_v0 rfl E d_X11_calls_1 ?_
  refine wa_iload_n 1 rfl E d_X11_calls_4 ?_
  obtain ⟨q_1, hq_1, h⟩ := kf_bd h
  refine wa_callV (st2 := [.int q_1.1]) (c_X10_hasDoor hty (kf_rf v0 1) v1 (kf_wtf hty 1 10 k_v0 (by decide) rfl) σ hq_1) mv_X10_hasDoor ml_X11_116 (kf_wtf hty 1 10 k_v0 (by decide) rfl) rfl (Nat.le_of_ble_eq_true rfl) rfl (Nat.le_of_ble_eq_true rfl) E d_X11_calls_5 rfl ?_
  refine wa_if_eq E d_X11_calls_8 (fun c_2 => ?_) (fun c_2 => ?_)
  · replace h := kf_ift c_2 h
    refine wa_iconst (-1) ic_m1 E d_X11_calls_22 ?_
    cases h
    exact wa_iret E d_X11_calls_23
  · replace h := kf_iff c_2 h
    refine wa_iload_n 2 rfl E d_X11_calls_11 ?_
    refine wa_iconst 1 ic_1 E d_X11_calls_12 ?_
    refine wa_icmp_lt E d_X11_calls_13 (fun c_3 => ?_) (fun c_3 => ?_)
    · replace h := kf_ift c_3 h
      refine wa_iconst (-1) ic_m1 E d_X11_calls_22 ?_
      cases h
      exact wa_iret E d_X11_calls_23
    · replace h := kf_iff c_3 h
      refine wa_iload_n 2 rfl E d_X11_calls_16 ?_
      refine wa_bipush 60 bp_60 E d_X11_calls_17 ?_
      refine wa_icmp_le E d_X11_calls_19 (fun c_4 => ?_) (fun c_4 => ?_)
      · replace h := kf_ift c_4 h
        refine wa_iconst 0 ic_0 E d_X11_calls_24 ?_
        refine wa_istore_n (lv' := [(3, .int 0), (0, .ref (kf_ad G v0)), (1, .int v1), (2, .int v2)]) rfl (by decide) rfl E d_X11_calls_25 ?_
        refine wa_iconst 0 ic_0 E d_X11_calls_26 ?_
        refine wa_istore (lv' := [(4, .int 0), (3, .int 0), (0, .ref (kf_ad G v0)), (1, .int v1), (2, .int v2)]) (by decide) rfl E d_X11_calls_27 ?_
        refine wa_sub [2, 3, 4, 1, 0] rfl ?_
        exact b_X11_calls_29 E hty kf_F v0 v1 v2 0 0 k_v0 q_1.2 h
      · replace h := kf_iff c_4 h
        refine wa_iconst (-1) ic_m1 E d_X11_calls_22 ?_
        cases h
        exact wa_iret E d_X11_calls_23
/-! X11_richest -/
theorem d_X11_richest_0 : kf_dq cX11_richest 0 1 1 (.iload_n 1) := ⟨by decide +kernel, rfl⟩
theorem d_X11_richest_1 : kf_dj cX11_richest 1 4 17 (.ifCond .lt) := ⟨16, by decide +kernel, rfl, by decide⟩
theorem d_X11_richest_4 : kf_dq cX11_richest 4 5 1 (.iload_n 1) := ⟨by decide +kernel, rfl⟩
theorem d_X11_richest_5 : kf_dq cX11_richest 5 7 2 (.bipush 60) := ⟨by decide +kernel, rfl⟩
theorem d_X11_richest_7 : kf_dj cX11_richest 7 10 17 (.if_icmp .gt) := ⟨10, by decide +kernel, rfl, by decide⟩
theorem d_X11_richest_10 : kf_dq cX11_richest 10 11 1 (.iload_n 2) := ⟨by decide +kernel, rfl⟩
theorem d_X11_richest_11 : kf_dq cX11_richest 11 14 3 (.invokestatic 238) := ⟨by decide +kernel, rfl⟩
theorem d_X11_richest_14 : kf_dj cX11_richest 14 17 19 (.ifCond .ne) := ⟨5, by decide +kernel, rfl, by decide⟩
theorem d_X11_richest_17 : kf_dq cX11_richest 17 18 1 (.iconst (-1)) := ⟨by decide +kernel, rfl⟩
theorem d_X11_richest_18 : kf_dq cX11_richest 18 19 1 (.ireturn) := ⟨by decide +kernel, rfl⟩
theorem d_X11_richest_19 : kf_dq cX11_richest 19 21 2 (.bipush (-2)) := ⟨by decide +kernel, rfl⟩
theorem d_X11_richest_21 : kf_dq cX11_richest 21 22 1 (.istore_n 3) := ⟨by decide +kernel, rfl⟩
theorem d_X11_richest_22 : kf_dq cX11_richest 22 24 2 (.bipush (-2)) := ⟨by decide +kernel, rfl⟩
theorem d_X11_richest_24 : kf_dq cX11_richest 24 26 2 (.istore 4) := ⟨by decide +kernel, rfl⟩
theorem d_X11_richest_26 : kf_dq cX11_richest 26 27 1 (.iconst 0) := ⟨by decide +kernel, rfl⟩
theorem d_X11_richest_27 : kf_dq cX11_richest 27 29 2 (.istore 5) := ⟨by decide +kernel, rfl⟩
theorem d_X11_richest_29 : kf_dq cX11_richest 29 31 2 (.iload 5) := ⟨by decide +kernel, rfl⟩
theorem d_X11_richest_31 : kf_dq cX11_richest 31 32 1 (.aload_n 0) := ⟨by decide +kernel, rfl⟩
theorem d_X11_richest_32 : kf_dq cX11_richest 32 35 3 (.getfield 19) := ⟨by decide +kernel, rfl⟩
theorem d_X11_richest_35 : kf_dq cX11_richest 35 38 3 (.getfield 256) := ⟨by decide +kernel, rfl⟩
theorem d_X11_richest_38 : kf_dj cX11_richest 38 41 84 (.if_icmp .ge) := ⟨46, by decide +kernel, rfl, by decide⟩
theorem d_X11_richest_41 : kf_dq cX11_richest 41 42 1 (.aload_n 0) := ⟨by decide +kernel, rfl⟩
theorem d_X11_richest_42 : kf_dq cX11_richest 42 45 3 (.getfield 63) := ⟨by decide +kernel, rfl⟩
theorem d_X11_richest_45 : kf_dq cX11_richest 45 47 2 (.iload 5) := ⟨by decide +kernel, rfl⟩
theorem d_X11_richest_47 : kf_dq cX11_richest 47 48 1 (.iload_n 1) := ⟨by decide +kernel, rfl⟩
theorem d_X11_richest_48 : kf_dq cX11_richest 48 49 1 (.aload_n 0) := ⟨by decide +kernel, rfl⟩
theorem d_X11_richest_49 : kf_dq cX11_richest 49 52 3 (.getfield 38) := ⟨by decide +kernel, rfl⟩
theorem d_X11_richest_52 : kf_dq cX11_richest 52 55 3 (.getfield 177) := ⟨by decide +kernel, rfl⟩
theorem d_X11_richest_55 : kf_dq cX11_richest 55 56 1 (.iconst (-1)) := ⟨by decide +kernel, rfl⟩
theorem d_X11_richest_56 : kf_dq cX11_richest 56 59 3 (.invokevirtual 248) := ⟨by decide +kernel, rfl⟩
theorem d_X11_richest_59 : kf_dq cX11_richest 59 62 3 (.getfield 138) := ⟨by decide +kernel, rfl⟩
theorem d_X11_richest_62 : kf_dq cX11_richest 62 64 2 (.istore 6) := ⟨by decide +kernel, rfl⟩
theorem d_X11_richest_64 : kf_dq cX11_richest 64 66 2 (.iload 6) := ⟨by decide +kernel, rfl⟩
theorem d_X11_richest_66 : kf_dq cX11_richest 66 68 2 (.iload 4) := ⟨by decide +kernel, rfl⟩
theorem d_X11_richest_68 : kf_dj cX11_richest 68 71 78 (.if_icmp .le) := ⟨10, by decide +kernel, rfl, by decide⟩
theorem d_X11_richest_71 : kf_dq cX11_richest 71 73 2 (.iload 5) := ⟨by decide +kernel, rfl⟩
theorem d_X11_richest_73 : kf_dq cX11_richest 73 74 1 (.istore_n 3) := ⟨by decide +kernel, rfl⟩
theorem d_X11_richest_74 : kf_dq cX11_richest 74 76 2 (.iload 6) := ⟨by decide +kernel, rfl⟩
theorem d_X11_richest_76 : kf_dq cX11_richest 76 78 2 (.istore 4) := ⟨by decide +kernel, rfl⟩
theorem d_X11_richest_78 : kf_dq cX11_richest 78 81 3 (.iinc 5 1) := ⟨by decide +kernel, rfl⟩
theorem d_X11_richest_81 : kf_dj cX11_richest 81 84 29 .goto := ⟨(-52), by decide +kernel, rfl, by decide⟩
theorem d_X11_richest_84 : kf_dq cX11_richest 84 85 1 (.iload_n 2) := ⟨by decide +kernel, rfl⟩
theorem d_X11_richest_85 : kf_dj cX11_richest 85 88 92 (.ifCond .ne) := ⟨7, by decide +kernel, rfl, by decide⟩
theorem d_X11_richest_88 : kf_dq cX11_richest 88 89 1 (.iload_n 3) := ⟨by decide +kernel, rfl⟩
theorem d_X11_richest_89 : kf_dj cX11_richest 89 92 94 .goto := ⟨5, by decide +kernel, rfl, by decide⟩
theorem d_X11_richest_92 : kf_dq cX11_richest 92 94 2 (.iload 4) := ⟨by decide +kernel, rfl⟩
theorem d_X11_richest_94 : kf_dq cX11_richest 94 95 1 (.ireturn) := ⟨by decide +kernel, rfl⟩
def f_X11_richest_78 (rec29 : Nat → Int32 → Int32 → Int32 → Int32 → Int32 → kf_St → Option (Int32 × kf_St)) (v0 : Nat) (v1 : Int32) (v2 : Int32) (v3 : Int32) (v4 : Int32) (v5 : Int32) (σ : kf_St) : Option (Int32 × kf_St) :=
  kf_lt (v5 + 1) fun v5_1 =>
  rec29 v0 v1 v2 v3 v4 v5_1 σ
set_option maxRecDepth 100000 in
set_option maxHeartbeats 4000000 in
theorem b_X11_richest_78 {X : kf_X} {G : kf_G} {rec29 : Nat → Int32 → Int32 → Int32 → Int32 → Int32 → kf_St → Option (Int32 × kf_St)} {q : (Int32 × kf_St)} (E : kf_ok X G cX11_richest RX11 7 (some .int) (8)) (hty : kf_wt G) (hrec29 : ∀ (v0 : Nat) (v1 : Int32) (v2 : Int32) (v3 : Int32) (v4 : Int32) (v5 : Int32) (k_v0 : kf_kd G v0 = 12) (σ : kf_St), rec29 v0 v1 v2 v3 v4 v5 σ = some q → kf_WA X G 7 (kf_Q X G (some (.int q.1)) q.2) 29 [(0, .ref (kf_ad G v0)), (1, .int v1), (2, .int v2), (3, .int v3), (4, .int v4), (5, .int v5)] [] σ) (v0 : Nat) (v1 : Int32) (v2 : Int32) (v3 : Int32) (v4 : Int32) (v5 : Int32) (k_v0 : kf_kd G v0 = 12) (σ : kf_St) (h : f_X11_richest_78 rec29 v0 v1 v2 v3 v4 v5 σ = some q) : kf_WA X G 7 (kf_Q X G (some (.int q.1)) q.2) 78 [(0, .ref (kf_ad G v0)), (1, .int v1), (2, .int v2), (3, .int v3), (4, .int v4), (5, .int v5)] [] σ := by
  unfold f_X11_richest_78 at h
  obtain ⟨v5_1, ev5_1, h⟩ := kf_lte h
  refine wa_iinc (lv' := [(5, .int v5_1), (0, .ref (kf_ad G v0)), (1, .int v1), (2, .int v2), (3, .int v3), (4, .int v4)]) v5_1 5 rfl (kf_inc ic_1 ev5_1) (by decide) rfl E d_X11_richest_78 ?_
  refine wa_goto E d_X11_richest_81 ?_
  refine wa_sub [1, 2, 3, 4, 5, 0] rfl ?_
  exact hrec29 v0 v1 v2 v3 v4 v5_1 k_v0 σ h
def f_X11_richest_29_s (rec29 : Nat → Int32 → Int32 → Int32 → Int32 → Int32 → kf_St → Option (Int32 × kf_St)) (v0 : Nat) (v1 : Int32) (v2 : Int32) (v3 : Int32) (v4 : Int32) (v5 : Int32) (σ : kf_St) : Option (Int32 × kf_St) :=
  if (σ.1 (kf_rf v0 1) 0) ≤ v5 then
    if v2 = 0 then
      some (v3, σ)
    else
      some (v4, σ)
  else
    (f_X0_after (kf_rf v0 7) v5 v1 (σ.1 (kf_rf v0 4) 2) (-1) σ).bind fun q_3 =>
    kf_lt ((q_3.1 (kf_rf (kf_rf v0 7) 3) 4)) fun v6_4 =>
    if v6_4 ≤ v4 then
      f_X11_richest_78 rec29 v0 v1 v2 v3 v4 v5 q_3
    else
      f_X11_richest_78 rec29 v0 v1 v2 v5 v6_4 v5 q_3
def f_X11_richest_29 : Nat → Nat → Int32 → Int32 → Int32 → Int32 → Int32 → kf_St → Option (Int32 × kf_St)
  | 0, _, _, _, _, _, _, _ => none
  | n + 1, v0, v1, v2, v3, v4, v5, σ => f_X11_richest_29_s (f_X11_richest_29 n) v0 v1 v2 v3 v4 v5 σ
set_option maxRecDepth 100000 in
set_option maxHeartbeats 4000000 in
theorem b_X11_richest_29_s {X : kf_X} {G : kf_G} (rec29 : Nat → Int32 → Int32 → Int32 → Int32 → Int32 → kf_St → Option (Int32 × kf_St)) {q : (Int32 × kf_St)} (E : kf_ok X G cX11_richest RX11 7 (some .int) (8)) (hty : kf_wt G) (hrec29 : ∀ (v0 : Nat) (v1 : Int32) (v2 : Int32) (v3 : Int32) (v4 : Int32) (v5 : Int32) (k_v0 : kf_kd G v0 = 12) (σ : kf_St), rec29 v0 v1 v2 v3 v4 v5 σ = some q → kf_WA X G 7 (kf_Q X G (some (.int q.1)) q.2) 29 [(0, .ref (kf_ad G v0)), (1, .int v1), (2, .int v2), (3, .int v3), (4, .int v4), (5, .int v5)] [] σ) (v0 : Nat) (v1 : Int32) (v2 : Int32) (v3 : Int32) (v4 : Int32) (v5 : Int32) (k_v0 : kf_kd G v0 = 12) (σ : kf_St) (h : f_X11_richest_29_s rec29 v0 v1 v2 v3 v4 v5 σ = some q) : kf_WA X G 7 (kf_Q X G (some (.int q.1)) q.2) 29 [(0, .ref (kf_ad G v0)), (1, .int v1), (2, .int v2), (3, .int v3), (4, .int v4), (5, .int v5)] [] σ := by
  unfold f_X11_richest_29_s at h
  refine wa_iload 5 rfl E d_X11_richest_29 ?_
  refine wa_aload_n 0 rfl E d_X11_richest_31 ?_
  refine wa_getR fl_X11_19 k_v0 rfl E d_X11_richest_32 ?_
  refine wa_getI fl_X11_256 (kf_wtf hty 1 10 k_v0 (by decide) rfl) rfl E d_X11_richest_35 ?_
  refine wa_icmp_ge E d_X11_richest_38 (fun c_1 => ?_) (fun c_1 => ?_)
  · replace h := kf_ift c_1 h
    refine wa_iload_n 2 rfl E d_X11_richest_84 ?_
    refine wa_if_ne E d_X11_richest_85 (fun c_2 => ?_) (fun c_2 => ?_)
    · replace h := kf_iff c_2 h
      refine wa_iload 4 rfl E d_X11_richest_92 ?_
      cases h
      exact wa_iret E d_X11_richest_94
    · replace h := kf_ift c_2 h
      refine wa_iload_n 3 rfl E d_X11_richest_88 ?_
      refine wa_goto E d_X11_richest_89 ?_
      cases h
      exact wa_iret E d_X11_richest_94
  · replace h := kf_iff c_1 h
    refine wa_aload_n 0 rfl E d_X11_richest_41 ?_
    refine wa_getR fl_X11_63 k_v0 rfl E d_X11_richest_42 ?_
    refine wa_iload 5 rfl E d_X11_richest_45 ?_
    refine wa_iload_n 1 rfl E d_X11_richest_47 ?_
    refine wa_aload_n 0 rfl E d_X11_richest_48 ?_
    refine wa_getR fl_X11_38 k_v0 rfl E d_X11_richest_49 ?_
    refine wa_getI fl_X11_177 (kf_wtf hty 4 7 k_v0 (by decide) rfl) rfl E d_X11_richest_52 ?_
    refine wa_iconst (-1) ic_m1 E d_X11_richest_55 ?_
    obtain ⟨q_3, hq_3, h⟩ := kf_bd h
    refine wa_callV (st2 := [.ref (kf_ad G (kf_rf (kf_rf v0 7) 3))]) (c_X0_after hty (kf_rf v0 7) v5 v1 (σ.1 (kf_rf v0 4) 2) (-1) (kf_wtf hty 7 0 k_v0 (by decide) rfl) σ hq_3) mv_X0_after ml_X11_248 (kf_wtf hty 7 0 k_v0 (by decide) rfl) rfl (Nat.le_of_ble_eq_true rfl) rfl (Nat.le_of_ble_eq_true rfl) E d_X11_richest_56 rfl ?_
    refine wa_getI fl_X11_138 (kf_wtf hty 3 1 (kf_wtf hty 7 0 k_v0 (by decide) rfl) (by decide) rfl) rfl E d_X11_richest_59 ?_
    obtain ⟨v6_4, ev6_4, h⟩ := kf_lte h
    refine wa_topi ev6_4 ?_
    refine wa_istore (lv' := [(6, .int v6_4), (0, .ref (kf_ad G v0)), (1, .int v1), (2, .int v2), (3, .int v3), (4, .int v4), (5, .int v5)]) (by decide) rfl E d_X11_richest_62 ?_
    refine wa_iload 0 rfl E d_X11_richest_64 ?_
    refine wa_iload 5 rfl E d_X11_richest_66 ?_
    refine wa_icmp_le E d_X11_richest_68 (fun c_5 => ?_) (fun c_5 => ?_)
    · replace h := kf_ift c_5 h
      refine wa_sub [1, 2, 3, 4, 5, 6] rfl ?_
      exact b_X11_richest_78 E hty hrec29 v0 v1 v2 v3 v4 v5 k_v0 q_3 h
    · replace h := kf_iff c_5 h
      refine wa_iload 6 rfl E d_X11_richest_71 ?_
      refine wa_istore_n (lv' := [(3, .int v5), (6, .int v6_4), (0, .ref (kf_ad G v0)), (1, .int v1), (2, .int v2), (4, .int v4), (5, .int v5)]) rfl (by decide) rfl E d_X11_richest_73 ?_
      refine wa_iload 1 rfl E d_X11_richest_74 ?_
      refine wa_istore (lv' := [(4, .int v6_4), (3, .int v5), (6, .int v6_4), (0, .ref (kf_ad G v0)), (1, .int v1), (2, .int v2), (5, .int v5)]) (by decide) rfl E d_X11_richest_76 ?_
      refine wa_sub [3, 4, 5, 1, 0, 6] rfl ?_
      exact b_X11_richest_78 E hty hrec29 v0 v1 v2 v5 v6_4 v5 k_v0 q_3 h
theorem b_X11_richest_29 {X : kf_X} {G : kf_G} {q : (Int32 × kf_St)} (E : kf_ok X G cX11_richest RX11 7 (some .int) (8)) (hty : kf_wt G) : ∀ (N : Nat) (v0 : Nat) (v1 : Int32) (v2 : Int32) (v3 : Int32) (v4 : Int32) (v5 : Int32) (k_v0 : kf_kd G v0 = 12) (σ : kf_St) (_ : f_X11_richest_29 N v0 v1 v2 v3 v4 v5 σ = some q), kf_WA X G 7 (kf_Q X G (some (.int q.1)) q.2) 29 [(0, .ref (kf_ad G v0)), (1, .int v1), (2, .int v2), (3, .int v3), (4, .int v4), (5, .int v5)] [] σ
  | 0, _, _, _, _, _, _, _, _, h => by cases h
  | N + 1, v0, v1, v2, v3, v4, v5, k_v0, σ, h => b_X11_richest_29_s _ E hty (b_X11_richest_29 E hty N) v0 v1 v2 v3 v4 v5 k_v0 σ h
def f_X11_richest (v0 : Nat) (v1 : Int32) (v2 : Int32) (σ : kf_St) : Option (Int32 × kf_St) :=
  if v1 < 0 then
    some ((-1), σ)
  else
    if 60 < v1 then
      some ((-1), σ)
    else
      (f_X11_isPick v2 σ).bind fun q_3 =>
      if q_3.1 = 0 then
        some ((-1), q_3.2)
      else
        f_X11_richest_29 kf_F v0 v1 v2 (-2) (-2) 0 q_3.2
set_option maxRecDepth 100000 in
set_option maxHeartbeats 4000000 in
theorem c_X11_richest {G : kf_G} (hty : kf_wt G) (v0 : Nat) (v1 : Int32) (v2 : Int32) (k_v0 : kf_kd G v0 = 12) (σ : kf_St) {q : (Int32 × kf_St)} (h : f_X11_richest v0 v1 v2 σ = some q) : kf_Ct (8) yX11_richest cX11_richest 7 (some .int) G [.ref (kf_ad G v0), .int v1, .int v2] σ (some (.int q.1)) q.2 := by
  refine kf_Ct.of hty.1 (lv := [(0, .ref (kf_ad G v0)), (1, .int v1), (2, .int v2)]) (by decide +kernel) rfl (Nat.le_of_ble_eq_true rfl) (fun X E => ?_)
  unfold f_X11_richest at h
  refine wa_iload_n 1 rfl E d_X11_richest_0 ?_
  refine wa_if_lt E d_X11_richest_1 (fun c_1 => ?_) (fun c_1 => ?_)
  · replace h := kf_ift c_1 h
    refine wa_iconst (-1) ic_m1 E d_X11_richest_17 ?_
    cases h
    exact wa_iret E d_X11_richest_18
  · replace h := kf_iff c_1 h
    refine wa_iload_n 1 rfl E d_X11_richest_4 ?_
    refine wa_bipush 60 bp_60 E d_X11_richest_5 ?_
    refine wa_icmp_gt E d_X11_richest_7 (fun c_2 => ?_) (fun c_2 => ?_)
    · replace h := kf_ift c_2 h
      refine wa_iconst (-1) ic_m1 E d_X11_richest_17 ?_
      cases h
      exact wa_iret E d_X11_richest_18
    · replace h := kf_iff c_2 h
      refine wa_iload_n 2 rfl E d_X11_richest_10 ?_
      obtain ⟨q_3, hq_3, h⟩ := kf_bd h
      refine wa_callS (st2 := [.int q_3.1]) (c_X11_isPick hty v2 σ hq_3) mt_X11_isPick ml_X11_238 rfl (Nat.le_of_ble_eq_true rfl) rfl (Nat.le_of_ble_eq_true rfl) E d_X11_richest_11 rfl ?_
      refine wa_if_ne E d_X11_richest_14 (fun c_4 => ?_) (fun c_4 => ?_)
      · replace h := kf_iff c_4 h
        refine wa_bipush (-2) bp_m2 E d_X11_richest_19 ?_
        refine wa_istore_n (lv' := [(3, .int (-2)), (0, .ref (kf_ad G v0)), (1, .int v1), (2, .int v2)]) rfl (by decide) rfl E d_X11_richest_21 ?_
        refine wa_bipush (-2) bp_m2 E d_X11_richest_22 ?_
        refine wa_istore (lv' := [(4, .int (-2)), (3, .int (-2)), (0, .ref (kf_ad G v0)), (1, .int v1), (2, .int v2)]) (by decide) rfl E d_X11_richest_24 ?_
        refine wa_iconst 0 ic_0 E d_X11_richest_26 ?_
        refine wa_istore (lv' := [(5, .int 0), (4, .int (-2)), (3, .int (-2)), (0, .ref (kf_ad G v0)), (1, .int v1), (2, .int v2)]) (by decide) rfl E d_X11_richest_27 ?_
        refine wa_sub [3, 4, 5, 2, 1, 0] rfl ?_
        exact b_X11_richest_29 E hty kf_F v0 v1 v2 (-2) (-2) 0 k_v0 q_3.2 h
      · replace h := kf_ift c_4 h
        refine wa_iconst (-1) ic_m1 E d_X11_richest_17 ?_
        cases h
        exact wa_iret E d_X11_richest_18
/-! X11_flat -/
theorem d_X11_flat_0 : kf_dq cX11_flat 0 1 1 (.iload_n 1) := ⟨by decide +kernel, rfl⟩
theorem d_X11_flat_1 : kf_dq cX11_flat 1 4 3 (.invokestatic 238) := ⟨by decide +kernel, rfl⟩
theorem d_X11_flat_4 : kf_dj cX11_flat 4 7 9 (.ifCond .ne) := ⟨5, by decide +kernel, rfl, by decide⟩
theorem d_X11_flat_7 : kf_dq cX11_flat 7 8 1 (.iconst (-1)) := ⟨by decide +kernel, rfl⟩
theorem d_X11_flat_8 : kf_dq cX11_flat 8 9 1 (.ireturn) := ⟨by decide +kernel, rfl⟩
theorem d_X11_flat_9 : kf_dq cX11_flat 9 11 2 (.bipush (-2)) := ⟨by decide +kernel, rfl⟩
theorem d_X11_flat_11 : kf_dq cX11_flat 11 12 1 (.istore_n 2) := ⟨by decide +kernel, rfl⟩
theorem d_X11_flat_12 : kf_dq cX11_flat 12 14 2 (.bipush (-2)) := ⟨by decide +kernel, rfl⟩
theorem d_X11_flat_14 : kf_dq cX11_flat 14 15 1 (.istore_n 3) := ⟨by decide +kernel, rfl⟩
theorem d_X11_flat_15 : kf_dq cX11_flat 15 16 1 (.iconst 0) := ⟨by decide +kernel, rfl⟩
theorem d_X11_flat_16 : kf_dq cX11_flat 16 18 2 (.istore 4) := ⟨by decide +kernel, rfl⟩
theorem d_X11_flat_18 : kf_dq cX11_flat 18 20 2 (.iload 4) := ⟨by decide +kernel, rfl⟩
theorem d_X11_flat_20 : kf_dq cX11_flat 20 21 1 (.aload_n 0) := ⟨by decide +kernel, rfl⟩
theorem d_X11_flat_21 : kf_dq cX11_flat 21 24 3 (.getfield 19) := ⟨by decide +kernel, rfl⟩
theorem d_X11_flat_24 : kf_dq cX11_flat 24 27 3 (.getfield 256) := ⟨by decide +kernel, rfl⟩
theorem d_X11_flat_27 : kf_dj cX11_flat 27 30 67 (.if_icmp .ge) := ⟨40, by decide +kernel, rfl, by decide⟩
theorem d_X11_flat_30 : kf_dq cX11_flat 30 31 1 (.aload_n 0) := ⟨by decide +kernel, rfl⟩
theorem d_X11_flat_31 : kf_dq cX11_flat 31 34 3 (.getfield 38) := ⟨by decide +kernel, rfl⟩
theorem d_X11_flat_34 : kf_dq cX11_flat 34 36 2 (.iload 4) := ⟨by decide +kernel, rfl⟩
theorem d_X11_flat_36 : kf_dq cX11_flat 36 37 1 (.aload_n 0) := ⟨by decide +kernel, rfl⟩
theorem d_X11_flat_37 : kf_dq cX11_flat 37 40 3 (.getfield 19) := ⟨by decide +kernel, rfl⟩
theorem d_X11_flat_40 : kf_dq cX11_flat 40 43 3 (.invokevirtual 145) := ⟨by decide +kernel, rfl⟩
theorem d_X11_flat_43 : kf_dq cX11_flat 43 45 2 (.istore 5) := ⟨by decide +kernel, rfl⟩
theorem d_X11_flat_45 : kf_dq cX11_flat 45 46 1 (.iload_n 2) := ⟨by decide +kernel, rfl⟩
theorem d_X11_flat_46 : kf_dj cX11_flat 46 49 55 (.ifCond .lt) := ⟨9, by decide +kernel, rfl, by decide⟩
theorem d_X11_flat_49 : kf_dq cX11_flat 49 51 2 (.iload 5) := ⟨by decide +kernel, rfl⟩
theorem d_X11_flat_51 : kf_dq cX11_flat 51 52 1 (.iload_n 3) := ⟨by decide +kernel, rfl⟩
theorem d_X11_flat_52 : kf_dj cX11_flat 52 55 61 (.if_icmp .ge) := ⟨9, by decide +kernel, rfl, by decide⟩
theorem d_X11_flat_55 : kf_dq cX11_flat 55 57 2 (.iload 4) := ⟨by decide +kernel, rfl⟩
theorem d_X11_flat_57 : kf_dq cX11_flat 57 58 1 (.istore_n 2) := ⟨by decide +kernel, rfl⟩
theorem d_X11_flat_58 : kf_dq cX11_flat 58 60 2 (.iload 5) := ⟨by decide +kernel, rfl⟩
theorem d_X11_flat_60 : kf_dq cX11_flat 60 61 1 (.istore_n 3) := ⟨by decide +kernel, rfl⟩
theorem d_X11_flat_61 : kf_dq cX11_flat 61 64 3 (.iinc 4 1) := ⟨by decide +kernel, rfl⟩
theorem d_X11_flat_64 : kf_dj cX11_flat 64 67 18 .goto := ⟨(-46), by decide +kernel, rfl, by decide⟩
theorem d_X11_flat_67 : kf_dq cX11_flat 67 68 1 (.iload_n 1) := ⟨by decide +kernel, rfl⟩
theorem d_X11_flat_68 : kf_dj cX11_flat 68 71 75 (.ifCond .ne) := ⟨7, by decide +kernel, rfl, by decide⟩
theorem d_X11_flat_71 : kf_dq cX11_flat 71 72 1 (.iload_n 2) := ⟨by decide +kernel, rfl⟩
theorem d_X11_flat_72 : kf_dj cX11_flat 72 75 76 .goto := ⟨4, by decide +kernel, rfl, by decide⟩
theorem d_X11_flat_75 : kf_dq cX11_flat 75 76 1 (.iload_n 3) := ⟨by decide +kernel, rfl⟩
theorem d_X11_flat_76 : kf_dq cX11_flat 76 77 1 (.ireturn) := ⟨by decide +kernel, rfl⟩
def f_X11_flat_61 (rec18 : Nat → Int32 → Int32 → Int32 → Int32 → kf_St → Option (Int32 × kf_St)) (v0 : Nat) (v1 : Int32) (v2 : Int32) (v3 : Int32) (v4 : Int32) (σ : kf_St) : Option (Int32 × kf_St) :=
  kf_lt (v4 + 1) fun v4_1 =>
  rec18 v0 v1 v2 v3 v4_1 σ
set_option maxRecDepth 100000 in
set_option maxHeartbeats 4000000 in
theorem b_X11_flat_61 {X : kf_X} {G : kf_G} {rec18 : Nat → Int32 → Int32 → Int32 → Int32 → kf_St → Option (Int32 × kf_St)} {q : (Int32 × kf_St)} (E : kf_ok X G cX11_flat RX11 6 (some .int) (3)) (hty : kf_wt G) (hrec18 : ∀ (v0 : Nat) (v1 : Int32) (v2 : Int32) (v3 : Int32) (v4 : Int32) (k_v0 : kf_kd G v0 = 12) (σ : kf_St), rec18 v0 v1 v2 v3 v4 σ = some q → kf_WA X G 6 (kf_Q X G (some (.int q.1)) q.2) 18 [(0, .ref (kf_ad G v0)), (1, .int v1), (2, .int v2), (3, .int v3), (4, .int v4)] [] σ) (v0 : Nat) (v1 : Int32) (v2 : Int32) (v3 : Int32) (v4 : Int32) (k_v0 : kf_kd G v0 = 12) (σ : kf_St) (h : f_X11_flat_61 rec18 v0 v1 v2 v3 v4 σ = some q) : kf_WA X G 6 (kf_Q X G (some (.int q.1)) q.2) 61 [(0, .ref (kf_ad G v0)), (1, .int v1), (2, .int v2), (3, .int v3), (4, .int v4)] [] σ := by
  unfold f_X11_flat_61 at h
  obtain ⟨v4_1, ev4_1, h⟩ := kf_lte h
  refine wa_iinc (lv' := [(4, .int v4_1), (0, .ref (kf_ad G v0)), (1, .int v1), (2, .int v2), (3, .int v3)]) v4_1 4 rfl (kf_inc ic_1 ev4_1) (by decide) rfl E d_X11_flat_61 ?_
  refine wa_goto E d_X11_flat_64 ?_
  refine wa_sub [1, 2, 3, 4, 0] rfl ?_
  exact hrec18 v0 v1 v2 v3 v4_1 k_v0 σ h
def f_X11_flat_55 (rec18 : Nat → Int32 → Int32 → Int32 → Int32 → kf_St → Option (Int32 × kf_St)) (v0 : Nat) (v1 : Int32) (v4 : Int32) (v5 : Int32) (σ : kf_St) : Option (Int32 × kf_St) :=
  f_X11_flat_61 rec18 v0 v1 v4 v5 v4 σ
set_option maxRecDepth 100000 in
set_option maxHeartbeats 4000000 in
theorem b_X11_flat_55 {X : kf_X} {G : kf_G} {rec18 : Nat → Int32 → Int32 → Int32 → Int32 → kf_St → Option (Int32 × kf_St)} {q : (Int32 × kf_St)} (E : kf_ok X G cX11_flat RX11 6 (some .int) (3)) (hty : kf_wt G) (hrec18 : ∀ (v0 : Nat) (v1 : Int32) (v2 : Int32) (v3 : Int32) (v4 : Int32) (k_v0 : kf_kd G v0 = 12) (σ : kf_St), rec18 v0 v1 v2 v3 v4 σ = some q → kf_WA X G 6 (kf_Q X G (some (.int q.1)) q.2) 18 [(0, .ref (kf_ad G v0)), (1, .int v1), (2, .int v2), (3, .int v3), (4, .int v4)] [] σ) (v0 : Nat) (v1 : Int32) (v4 : Int32) (v5 : Int32) (k_v0 : kf_kd G v0 = 12) (σ : kf_St) (h : f_X11_flat_55 rec18 v0 v1 v4 v5 σ = some q) : kf_WA X G 6 (kf_Q X G (some (.int q.1)) q.2) 55 [(0, .ref (kf_ad G v0)), (1, .int v1), (4, .int v4), (5, .int v5)] [] σ := by
  unfold f_X11_flat_55 at h
  refine wa_iload 2 rfl E d_X11_flat_55 ?_
  refine wa_istore_n (lv' := [(2, .int v4), (0, .ref (kf_ad G v0)), (1, .int v1), (4, .int v4), (5, .int v5)]) rfl (by decide) rfl E d_X11_flat_57 ?_
  refine wa_iload 4 rfl E d_X11_flat_58 ?_
  refine wa_istore_n (lv' := [(3, .int v5), (2, .int v4), (0, .ref (kf_ad G v0)), (1, .int v1), (4, .int v4), (5, .int v5)]) rfl (by decide) rfl E d_X11_flat_60 ?_
  refine wa_sub [2, 3, 1, 0, 4] rfl ?_
  exact b_X11_flat_61 E hty hrec18 v0 v1 v4 v5 v4 k_v0 σ h
def f_X11_flat_18_s (rec18 : Nat → Int32 → Int32 → Int32 → Int32 → kf_St → Option (Int32 × kf_St)) (v0 : Nat) (v1 : Int32) (v2 : Int32) (v3 : Int32) (v4 : Int32) (σ : kf_St) : Option (Int32 × kf_St) :=
  if (σ.1 (kf_rf v0 1) 0) ≤ v4 then
    if v1 = 0 then
      some (v2, σ)
    else
      some (v3, σ)
  else
    (f_X7_offFirst (kf_rf v0 4) v4 (kf_rf v0 1) σ).bind fun q_3 =>
    if v2 < 0 then
      f_X11_flat_55 rec18 v0 v1 v4 q_3.1 q_3.2
    else
      if v3 ≤ q_3.1 then
        f_X11_flat_61 rec18 v0 v1 v2 v3 v4 q_3.2
      else
        f_X11_flat_55 rec18 v0 v1 v4 q_3.1 q_3.2
def f_X11_flat_18 : Nat → Nat → Int32 → Int32 → Int32 → Int32 → kf_St → Option (Int32 × kf_St)
  | 0, _, _, _, _, _, _ => none
  | n + 1, v0, v1, v2, v3, v4, σ => f_X11_flat_18_s (f_X11_flat_18 n) v0 v1 v2 v3 v4 σ
set_option maxRecDepth 100000 in
set_option maxHeartbeats 4000000 in
theorem b_X11_flat_18_s {X : kf_X} {G : kf_G} (rec18 : Nat → Int32 → Int32 → Int32 → Int32 → kf_St → Option (Int32 × kf_St)) {q : (Int32 × kf_St)} (E : kf_ok X G cX11_flat RX11 6 (some .int) (3)) (hty : kf_wt G) (hrec18 : ∀ (v0 : Nat) (v1 : Int32) (v2 : Int32) (v3 : Int32) (v4 : Int32) (k_v0 : kf_kd G v0 = 12) (σ : kf_St), rec18 v0 v1 v2 v3 v4 σ = some q → kf_WA X G 6 (kf_Q X G (some (.int q.1)) q.2) 18 [(0, .ref (kf_ad G v0)), (1, .int v1), (2, .int v2), (3, .int v3), (4, .int v4)] [] σ) (v0 : Nat) (v1 : Int32) (v2 : Int32) (v3 : Int32) (v4 : Int32) (k_v0 : kf_kd G v0 = 12) (σ : kf_St) (h : f_X11_flat_18_s rec18 v0 v1 v2 v3 v4 σ = some q) : kf_WA X G 6 (kf_Q X G (some (.int q.1)) q.2) 18 [(0, .ref (kf_ad G v0)), (1, .int v1), (2, .int v2), (3, .int v3), (4, .int v4)] [] σ := by
  unfold f_X11_flat_18_s at h
  refine wa_iload 4 rfl E d_X11_flat_18 ?_
  refine wa_aload_n 0 rfl E d_X11_flat_20 ?_
  refine wa_getR fl_X11_19 k_v0 rfl E d_X11_flat_21 ?_
  refine wa_getI fl_X11_256 (kf_wtf hty 1 10 k_v0 (by decide) rfl) rfl E d_X11_flat_24 ?_
  refine wa_icmp_ge E d_X11_flat_27 (fun c_1 => ?_) (fun c_1 => ?_)
  · replace h := kf_ift c_1 h
    refine wa_iload_n 1 rfl E d_X11_flat_67 ?_
    refine wa_if_ne E d_X11_flat_68 (fun c_2 => ?_) (fun c_2 => ?_)
    · replace h := kf_iff c_2 h
      refine wa_iload_n 3 rfl E d_X11_flat_75 ?_
      cases h
      exact wa_iret E d_X11_flat_76
    · replace h := kf_ift c_2 h
      refine wa_iload_n 2 rfl E d_X11_flat_71 ?_
      refine wa_goto E d_X11_flat_72 ?_
      cases h
      exact wa_iret E d_X11_flat_76
  · replace h := kf_iff c_1 h
    refine wa_aload_n 0 rfl E d_X11_flat_30 ?_
    refine wa_getR fl_X11_38 k_v0 rfl E d_X11_flat_31 ?_
    refine wa_iload 4 rfl E d_X11_flat_34 ?_
    refine wa_aload_n 0 rfl E d_X11_flat_36 ?_
    refine wa_getR fl_X11_19 k_v0 rfl E d_X11_flat_37 ?_
    obtain ⟨q_3, hq_3, h⟩ := kf_bd h
    refine wa_callV (st2 := [.int q_3.1]) (c_X7_offFirst hty (kf_rf v0 4) v4 (kf_rf v0 1) (kf_wtf hty 4 7 k_v0 (by decide) rfl) (kf_wtf hty 1 10 k_v0 (by decide) rfl) σ hq_3) mv_X7_offFirst ml_X11_145 (kf_wtf hty 4 7 k_v0 (by decide) rfl) rfl (Nat.le_of_ble_eq_true rfl) rfl (Nat.le_of_ble_eq_true rfl) E d_X11_flat_40 rfl ?_
    refine wa_istore (lv' := [(5, .int q_3.1), (0, .ref (kf_ad G v0)), (1, .int v1), (2, .int v2), (3, .int v3), (4, .int v4)]) (by decide) rfl E d_X11_flat_43 ?_
    refine wa_iload_n 3 rfl E d_X11_flat_45 ?_
    refine wa_if_lt E d_X11_flat_46 (fun c_4 => ?_) (fun c_4 => ?_)
    · replace h := kf_ift c_4 h
      refine wa_sub [1, 2, 5, 0] rfl ?_
      exact b_X11_flat_55 E hty hrec18 v0 v1 v4 q_3.1 k_v0 q_3.2 h
    · replace h := kf_iff c_4 h
      refine wa_iload 0 rfl E d_X11_flat_49 ?_
      refine wa_iload_n 4 rfl E d_X11_flat_51 ?_
      refine wa_icmp_ge E d_X11_flat_52 (fun c_5 => ?_) (fun c_5 => ?_)
      · replace h := kf_ift c_5 h
        refine wa_sub [1, 2, 3, 4, 5] rfl ?_
        exact b_X11_flat_61 E hty hrec18 v0 v1 v2 v3 v4 k_v0 q_3.2 h
      · replace h := kf_iff c_5 h
        refine wa_sub [1, 2, 5, 0] rfl ?_
        exact b_X11_flat_55 E hty hrec18 v0 v1 v4 q_3.1 k_v0 q_3.2 h
theorem b_X11_flat_18 {X : kf_X} {G : kf_G} {q : (Int32 × kf_St)} (E : kf_ok X G cX11_flat RX11 6 (some .int) (3)) (hty : kf_wt G) : ∀ (N : Nat) (v0 : Nat) (v1 : Int32) (v2 : Int32) (v3 : Int32) (v4 : Int32) (k_v0 : kf_kd G v0 = 12) (σ : kf_St) (_ : f_X11_flat_18 N v0 v1 v2 v3 v4 σ = some q), kf_WA X G 6 (kf_Q X G (some (.int q.1)) q.2) 18 [(0, .ref (kf_ad G v0)), (1, .int v1), (2, .int v2), (3, .int v3), (4, .int v4)] [] σ
  | 0, _, _, _, _, _, _, _, h => by cases h
  | N + 1, v0, v1, v2, v3, v4, k_v0, σ, h => b_X11_flat_18_s _ E hty (b_X11_flat_18 E hty N) v0 v1 v2 v3 v4 k_v0 σ h
def f_X11_flat (v0 : Nat) (v1 : Int32) (σ : kf_St) : Option (Int32 × kf_St) :=
  (f_X11_isPick v1 σ).bind fun q_1 =>
  if q_1.1 = 0 then
    some ((-1), q_1.2)
  else
    f_X11_flat_18 kf_F v0 v1 (-2) (-2) 0 q_1.2
set_option maxRecDepth 100000 in
set_option maxHeartbeats 4000000 in
theorem c_X11_flat {G : kf_G} (hty : kf_wt G) (v0 : Nat) (v1 : Int32) (k_v0 : kf_kd G v0 = 12) (σ : kf_St) {q : (Int32 × kf_St)} (h : f_X11_flat v0 v1 σ = some q) : kf_Ct (3) yX11_flat cX11_flat 6 (some .int) G [.ref (kf_ad G v0), .int v1] σ (some (.int q.1)) q.2 := by
  refine kf_Ct.of hty.1 (lv := [(0, .ref (kf_ad G v0)), (1, .int v1)]) (by decide +kernel) rfl (Nat.le_of_ble_eq_true rfl) (fun X E => ?_)
  unfold f_X11_flat at h
  refine wa_iload_n 1 rfl E d_X11_flat_0 ?_
  obtain ⟨q_1, hq_1, h⟩ := kf_bd h
  refine wa_callS (st2 := [.int q_1.1]) (c_X11_isPick hty v1 σ hq_1) mt_X11_isPick ml_X11_238 rfl (Nat.le_of_ble_eq_true rfl) rfl (Nat.le_of_ble_eq_true rfl) E d_X11_flat_1 rfl ?_
  refine wa_if_ne E d_X11_flat_4 (fun c_2 => ?_) (fun c_2 => ?_)
  · replace h := kf_iff c_2 h
    refine wa_bipush (-2) bp_m2 E d_X11_flat_9 ?_
    refine wa_istore_n (lv' := [(2, .int (-2)), (0, .ref (kf_ad G v0)), (1, .int v1)]) rfl (by decide) rfl E d_X11_flat_11 ?_
    refine wa_bipush (-2) bp_m2 E d_X11_flat_12 ?_
    refine wa_istore_n (lv' := [(3, .int (-2)), (2, .int (-2)), (0, .ref (kf_ad G v0)), (1, .int v1)]) rfl (by decide) rfl E d_X11_flat_14 ?_
    refine wa_iconst 0 ic_0 E d_X11_flat_15 ?_
    refine wa_istore (lv' := [(4, .int 0), (3, .int (-2)), (2, .int (-2)), (0, .ref (kf_ad G v0)), (1, .int v1)]) (by decide) rfl E d_X11_flat_16 ?_
    refine wa_sub [3, 4, 2, 1, 0] rfl ?_
    exact b_X11_flat_18 E hty kf_F v0 v1 (-2) (-2) 0 k_v0 q_1.2 h
  · replace h := kf_ift c_2 h
    refine wa_iconst (-1) ic_m1 E d_X11_flat_7 ?_
    cases h
    exact wa_iret E d_X11_flat_8
/-! X11_then -/
theorem d_X11_then_0 : kf_dq cX11_then 0 1 1 (.aload_n 0) := ⟨by decide +kernel, rfl⟩
theorem d_X11_then_1 : kf_dq cX11_then 1 4 3 (.getfield 19) := ⟨by decide +kernel, rfl⟩
theorem d_X11_then_4 : kf_dq cX11_then 4 5 1 (.iload_n 1) := ⟨by decide +kernel, rfl⟩
theorem d_X11_then_5 : kf_dq cX11_then 5 8 3 (.invokevirtual 116) := ⟨by decide +kernel, rfl⟩
theorem d_X11_then_8 : kf_dj cX11_then 8 11 30 (.ifCond .eq) := ⟨22, by decide +kernel, rfl, by decide⟩
theorem d_X11_then_11 : kf_dq cX11_then 11 12 1 (.iload_n 2) := ⟨by decide +kernel, rfl⟩
theorem d_X11_then_12 : kf_dj cX11_then 12 15 30 (.ifCond .lt) := ⟨18, by decide +kernel, rfl, by decide⟩
theorem d_X11_then_15 : kf_dq cX11_then 15 16 1 (.iload_n 2) := ⟨by decide +kernel, rfl⟩
theorem d_X11_then_16 : kf_dq cX11_then 16 18 2 (.bipush 60) := ⟨by decide +kernel, rfl⟩
theorem d_X11_then_18 : kf_dj cX11_then 18 21 30 (.if_icmp .gt) := ⟨12, by decide +kernel, rfl, by decide⟩
theorem d_X11_then_21 : kf_dq cX11_then 21 22 1 (.iload_n 3) := ⟨by decide +kernel, rfl⟩
theorem d_X11_then_22 : kf_dj cX11_then 22 25 30 (.ifCond .lt) := ⟨8, by decide +kernel, rfl, by decide⟩
theorem d_X11_then_25 : kf_dq cX11_then 25 26 1 (.iload_n 3) := ⟨by decide +kernel, rfl⟩
theorem d_X11_then_26 : kf_dq cX11_then 26 27 1 (.iconst 5) := ⟨by decide +kernel, rfl⟩
theorem d_X11_then_27 : kf_dj cX11_then 27 30 32 (.if_icmp .le) := ⟨5, by decide +kernel, rfl, by decide⟩
theorem d_X11_then_30 : kf_dq cX11_then 30 31 1 (.iconst (-1)) := ⟨by decide +kernel, rfl⟩
theorem d_X11_then_31 : kf_dq cX11_then 31 32 1 (.ireturn) := ⟨by decide +kernel, rfl⟩
theorem d_X11_then_32 : kf_dq cX11_then 32 33 1 (.aload_n 0) := ⟨by decide +kernel, rfl⟩
theorem d_X11_then_33 : kf_dq cX11_then 33 36 3 (.getfield 63) := ⟨by decide +kernel, rfl⟩
theorem d_X11_then_36 : kf_dq cX11_then 36 37 1 (.iload_n 1) := ⟨by decide +kernel, rfl⟩
theorem d_X11_then_37 : kf_dq cX11_then 37 38 1 (.iload_n 2) := ⟨by decide +kernel, rfl⟩
theorem d_X11_then_38 : kf_dq cX11_then 38 39 1 (.aload_n 0) := ⟨by decide +kernel, rfl⟩
theorem d_X11_then_39 : kf_dq cX11_then 39 42 3 (.getfield 38) := ⟨by decide +kernel, rfl⟩
theorem d_X11_then_42 : kf_dq cX11_then 42 45 3 (.getfield 177) := ⟨by decide +kernel, rfl⟩
theorem d_X11_then_45 : kf_dq cX11_then 45 46 1 (.aload_n 0) := ⟨by decide +kernel, rfl⟩
theorem d_X11_then_46 : kf_dq cX11_then 46 49 3 (.getfield 19) := ⟨by decide +kernel, rfl⟩
theorem d_X11_then_49 : kf_dq cX11_then 49 52 3 (.getfield 298) := ⟨by decide +kernel, rfl⟩
theorem d_X11_then_52 : kf_dq cX11_then 52 55 3 (.invokevirtual 248) := ⟨by decide +kernel, rfl⟩
theorem d_X11_then_55 : kf_dq cX11_then 55 57 2 (.astore 4) := ⟨by decide +kernel, rfl⟩
theorem d_X11_then_57 : kf_dq cX11_then 57 58 1 (.iload_n 3) := ⟨by decide +kernel, rfl⟩
theorem d_X11_then_58 : kf_dq cX11_then 58 59 1 (.iconst 4) := ⟨by decide +kernel, rfl⟩
theorem d_X11_then_59 : kf_dj cX11_then 59 62 70 (.if_icmp .ge) := ⟨11, by decide +kernel, rfl, by decide⟩
theorem d_X11_then_62 : kf_dq cX11_then 62 64 2 (.aload 4) := ⟨by decide +kernel, rfl⟩
theorem d_X11_then_64 : kf_dq cX11_then 64 67 3 (.getfield 123) := ⟨by decide +kernel, rfl⟩
theorem d_X11_then_67 : kf_dq cX11_then 67 68 1 (.iload_n 3) := ⟨by decide +kernel, rfl⟩
theorem d_X11_then_68 : kf_dq cX11_then 68 69 1 (.iaload) := ⟨by decide +kernel, rfl⟩
theorem d_X11_then_69 : kf_dq cX11_then 69 70 1 (.ireturn) := ⟨by decide +kernel, rfl⟩
theorem d_X11_then_70 : kf_dq cX11_then 70 71 1 (.iload_n 3) := ⟨by decide +kernel, rfl⟩
theorem d_X11_then_71 : kf_dq cX11_then 71 72 1 (.iconst 4) := ⟨by decide +kernel, rfl⟩
theorem d_X11_then_72 : kf_dj cX11_then 72 75 90 (.if_icmp .ne) := ⟨18, by decide +kernel, rfl, by decide⟩
theorem d_X11_then_75 : kf_dq cX11_then 75 76 1 (.aload_n 0) := ⟨by decide +kernel, rfl⟩
theorem d_X11_then_76 : kf_dq cX11_then 76 79 3 (.getfield 19) := ⟨by decide +kernel, rfl⟩
theorem d_X11_then_79 : kf_dq cX11_then 79 81 2 (.aload 4) := ⟨by decide +kernel, rfl⟩
theorem d_X11_then_81 : kf_dq cX11_then 81 84 3 (.getfield 123) := ⟨by decide +kernel, rfl⟩
theorem d_X11_then_84 : kf_dq cX11_then 84 87 3 (.invokevirtual 141) := ⟨by decide +kernel, rfl⟩
theorem d_X11_then_87 : kf_dj cX11_then 87 90 95 .goto := ⟨8, by decide +kernel, rfl, by decide⟩
theorem d_X11_then_90 : kf_dq cX11_then 90 92 2 (.aload 4) := ⟨by decide +kernel, rfl⟩
theorem d_X11_then_92 : kf_dq cX11_then 92 95 3 (.getfield 138) := ⟨by decide +kernel, rfl⟩
theorem d_X11_then_95 : kf_dq cX11_then 95 96 1 (.ireturn) := ⟨by decide +kernel, rfl⟩
def f_X11_then (v0 : Nat) (v1 : Int32) (v2 : Int32) (v3 : Int32) (σ : kf_St) : Option (Int32 × kf_St) :=
  (f_X10_hasDoor (kf_rf v0 1) v1 σ).bind fun q_1 =>
  if q_1.1 = 0 then
    some ((-1), q_1.2)
  else
    if v2 < 0 then
      some ((-1), q_1.2)
    else
      if 60 < v2 then
        some ((-1), q_1.2)
      else
        if v3 < 0 then
          some ((-1), q_1.2)
        else
          if v3 ≤ 5 then
            (f_X0_after (kf_rf v0 7) v1 v2 (q_1.2.1 (kf_rf v0 4) 2) (q_1.2.1 (kf_rf v0 1) 5) q_1.2).bind fun q_7 =>
            if 4 ≤ v3 then
              if v3 = 4 then
                (f_X10_knownBy (kf_rf v0 1) (kf_rf (kf_rf (kf_rf v0 7) 3) 0) q_7).bind fun q_10 =>
                some (q_10.1, q_10.2)
              else
                some ((q_7.1 (kf_rf (kf_rf v0 7) 3) 4), q_7)
            else
              if kf_ix v3 (kf_ln (kf_rf (kf_rf (kf_rf v0 7) 3) 0)) = true then
              some ((q_7.1 (kf_rf (kf_rf (kf_rf v0 7) 3) 0) (Int32.toNatClampNeg v3)), q_7)
              else none
          else
            some ((-1), q_1.2)
set_option maxRecDepth 100000 in
set_option maxHeartbeats 4000000 in
theorem c_X11_then {G : kf_G} (hty : kf_wt G) (v0 : Nat) (v1 : Int32) (v2 : Int32) (v3 : Int32) (k_v0 : kf_kd G v0 = 12) (σ : kf_St) {q : (Int32 × kf_St)} (h : f_X11_then v0 v1 v2 v3 σ = some q) : kf_Ct (8) yX11_then cX11_then 5 (some .int) G [.ref (kf_ad G v0), .int v1, .int v2, .int v3] σ (some (.int q.1)) q.2 := by
  refine kf_Ct.of hty.1 (lv := [(0, .ref (kf_ad G v0)), (1, .int v1), (2, .int v2), (3, .int v3)]) (by decide +kernel) rfl (Nat.le_of_ble_eq_true rfl) (fun X E => ?_)
  unfold f_X11_then at h
  refine wa_aload_n 0 rfl E d_X11_then_0 ?_
  refine wa_getR fl_X11_19 k_v0 rfl E d_X11_then_1 ?_
  refine wa_iload_n 1 rfl E d_X11_then_4 ?_
  obtain ⟨q_1, hq_1, h⟩ := kf_bd h
  refine wa_callV (st2 := [.int q_1.1]) (c_X10_hasDoor hty (kf_rf v0 1) v1 (kf_wtf hty 1 10 k_v0 (by decide) rfl) σ hq_1) mv_X10_hasDoor ml_X11_116 (kf_wtf hty 1 10 k_v0 (by decide) rfl) rfl (Nat.le_of_ble_eq_true rfl) rfl (Nat.le_of_ble_eq_true rfl) E d_X11_then_5 rfl ?_
  refine wa_if_eq E d_X11_then_8 (fun c_2 => ?_) (fun c_2 => ?_)
  · replace h := kf_ift c_2 h
    refine wa_iconst (-1) ic_m1 E d_X11_then_30 ?_
    cases h
    exact wa_iret E d_X11_then_31
  · replace h := kf_iff c_2 h
    refine wa_iload_n 2 rfl E d_X11_then_11 ?_
    refine wa_if_lt E d_X11_then_12 (fun c_3 => ?_) (fun c_3 => ?_)
    · replace h := kf_ift c_3 h
      refine wa_iconst (-1) ic_m1 E d_X11_then_30 ?_
      cases h
      exact wa_iret E d_X11_then_31
    · replace h := kf_iff c_3 h
      refine wa_iload_n 2 rfl E d_X11_then_15 ?_
      refine wa_bipush 60 bp_60 E d_X11_then_16 ?_
      refine wa_icmp_gt E d_X11_then_18 (fun c_4 => ?_) (fun c_4 => ?_)
      · replace h := kf_ift c_4 h
        refine wa_iconst (-1) ic_m1 E d_X11_then_30 ?_
        cases h
        exact wa_iret E d_X11_then_31
      · replace h := kf_iff c_4 h
        refine wa_iload_n 3 rfl E d_X11_then_21 ?_
        refine wa_if_lt E d_X11_then_22 (fun c_5 => ?_) (fun c_5 => ?_)
        · replace h := kf_ift c_5 h
          refine wa_iconst (-1) ic_m1 E d_X11_then_30 ?_
          cases h
          exact wa_iret E d_X11_then_31
        · replace h := kf_iff c_5 h
          refine wa_iload_n 3 rfl E d_X11_then_25 ?_
          refine wa_iconst 5 ic_5 E d_X11_then_26 ?_
          refine wa_icmp_le E d_X11_then_27 (fun c_6 => ?_) (fun c_6 => ?_)
          · replace h := kf_ift c_6 h
            refine wa_aload_n 0 rfl E d_X11_then_32 ?_
            refine wa_getR fl_X11_63 k_v0 rfl E d_X11_then_33 ?_
            refine wa_iload_n 1 rfl E d_X11_then_36 ?_
            refine wa_iload_n 2 rfl E d_X11_then_37 ?_
            refine wa_aload_n 0 rfl E d_X11_then_38 ?_
            refine wa_getR fl_X11_38 k_v0 rfl E d_X11_then_39 ?_
            refine wa_getI fl_X11_177 (kf_wtf hty 4 7 k_v0 (by decide) rfl) rfl E d_X11_then_42 ?_
            refine wa_aload_n 0 rfl E d_X11_then_45 ?_
            refine wa_getR fl_X11_19 k_v0 rfl E d_X11_then_46 ?_
            refine wa_getI fl_X11_298 (kf_wtf hty 1 10 k_v0 (by decide) rfl) rfl E d_X11_then_49 ?_
            obtain ⟨q_7, hq_7, h⟩ := kf_bd h
            refine wa_callV (st2 := [.ref (kf_ad G (kf_rf (kf_rf v0 7) 3))]) (c_X0_after hty (kf_rf v0 7) v1 v2 (q_1.2.1 (kf_rf v0 4) 2) (q_1.2.1 (kf_rf v0 1) 5) (kf_wtf hty 7 0 k_v0 (by decide) rfl) q_1.2 hq_7) mv_X0_after ml_X11_248 (kf_wtf hty 7 0 k_v0 (by decide) rfl) rfl (Nat.le_of_ble_eq_true rfl) rfl (Nat.le_of_ble_eq_true rfl) E d_X11_then_52 rfl ?_
            refine wa_astore (lv' := [(4, .ref (kf_ad G (kf_rf (kf_rf v0 7) 3))), (0, .ref (kf_ad G v0)), (1, .int v1), (2, .int v2), (3, .int v3)]) (by decide) rfl E d_X11_then_55 ?_
            refine wa_iload_n 4 rfl E d_X11_then_57 ?_
            refine wa_iconst 4 ic_4 E d_X11_then_58 ?_
            refine wa_icmp_ge E d_X11_then_59 (fun c_8 => ?_) (fun c_8 => ?_)
            · replace h := kf_ift c_8 h
              refine wa_iload_n 4 rfl E d_X11_then_70 ?_
              refine wa_iconst 4 ic_4 E d_X11_then_71 ?_
              refine wa_icmp_ne E d_X11_then_72 (fun c_9 => ?_) (fun c_9 => ?_)
              · replace h := kf_iff c_9 h
                refine wa_aload 0 rfl E d_X11_then_90 ?_
                refine wa_getI fl_X11_138 (kf_wtf hty 3 1 (kf_wtf hty 7 0 k_v0 (by decide) rfl) (by decide) rfl) rfl E d_X11_then_92 ?_
                cases h
                exact wa_iret E d_X11_then_95
              · replace h := kf_ift c_9 h
                refine wa_aload_n 1 rfl E d_X11_then_75 ?_
                refine wa_getR fl_X11_19 k_v0 rfl E d_X11_then_76 ?_
                refine wa_aload 0 rfl E d_X11_then_79 ?_
                refine wa_getR fl_X11_123 (kf_wtf hty 3 1 (kf_wtf hty 7 0 k_v0 (by decide) rfl) (by decide) rfl) rfl E d_X11_then_81 ?_
                obtain ⟨q_10, hq_10, h⟩ := kf_bd h
                refine wa_callV (st2 := [.int q_10.1]) (c_X10_knownBy hty (kf_rf v0 1) (kf_rf (kf_rf (kf_rf v0 7) 3) 0) (kf_wtf hty 1 10 k_v0 (by decide) rfl) (kf_wtf hty 0 49 (kf_wtf hty 3 1 (kf_wtf hty 7 0 k_v0 (by decide) rfl) (by decide) rfl) (by decide) rfl) q_7 hq_10) mv_X10_knownBy ml_X11_141 (kf_wtf hty 1 10 k_v0 (by decide) rfl) rfl (Nat.le_of_ble_eq_true rfl) rfl (Nat.le_of_ble_eq_true rfl) E d_X11_then_84 rfl ?_
                refine wa_goto E d_X11_then_87 ?_
                cases h
                exact wa_iret E d_X11_then_95
            · replace h := kf_iff c_8 h
              refine wa_aload 0 rfl E d_X11_then_62 ?_
              refine wa_getR fl_X11_123 (kf_wtf hty 3 1 (kf_wtf hty 7 0 k_v0 (by decide) rfl) (by decide) rfl) rfl E d_X11_then_64 ?_
              refine wa_iload_n 4 rfl E d_X11_then_67 ?_
              obtain ⟨g_11, h⟩ := kf_gd h
              refine wa_iald (kf_wtf hty 0 49 (kf_wtf hty 3 1 (kf_wtf hty 7 0 k_v0 (by decide) rfl) (by decide) rfl) (by decide) rfl) g_11 E d_X11_then_68 ?_
              cases h
              exact wa_iret E d_X11_then_69
          · replace h := kf_iff c_6 h
            refine wa_iconst (-1) ic_m1 E d_X11_then_30 ?_
            cases h
            exact wa_iret E d_X11_then_31
/-! X11_liftsDueBy -/
theorem d_X11_liftsDueBy_0 : kf_dq cX11_liftsDueBy 0 1 1 (.iconst 0) := ⟨by decide +kernel, rfl⟩
theorem d_X11_liftsDueBy_1 : kf_dq cX11_liftsDueBy 1 2 1 (.istore_n 3) := ⟨by decide +kernel, rfl⟩
theorem d_X11_liftsDueBy_2 : kf_dq cX11_liftsDueBy 2 3 1 (.iconst 0) := ⟨by decide +kernel, rfl⟩
theorem d_X11_liftsDueBy_3 : kf_dq cX11_liftsDueBy 3 5 2 (.istore 4) := ⟨by decide +kernel, rfl⟩
theorem d_X11_liftsDueBy_5 : kf_dq cX11_liftsDueBy 5 7 2 (.iload 4) := ⟨by decide +kernel, rfl⟩
theorem d_X11_liftsDueBy_7 : kf_dq cX11_liftsDueBy 7 8 1 (.aload_n 0) := ⟨by decide +kernel, rfl⟩
theorem d_X11_liftsDueBy_8 : kf_dq cX11_liftsDueBy 8 11 3 (.getfield 19) := ⟨by decide +kernel, rfl⟩
theorem d_X11_liftsDueBy_11 : kf_dq cX11_liftsDueBy 11 14 3 (.getfield 292) := ⟨by decide +kernel, rfl⟩
theorem d_X11_liftsDueBy_14 : kf_dj cX11_liftsDueBy 14 17 47 (.if_icmp .ge) := ⟨33, by decide +kernel, rfl, by decide⟩
theorem d_X11_liftsDueBy_17 : kf_dq cX11_liftsDueBy 17 18 1 (.aload_n 0) := ⟨by decide +kernel, rfl⟩
theorem d_X11_liftsDueBy_18 : kf_dq cX11_liftsDueBy 18 21 3 (.getfield 19) := ⟨by decide +kernel, rfl⟩
theorem d_X11_liftsDueBy_21 : kf_dq cX11_liftsDueBy 21 24 3 (.getfield 165) := ⟨by decide +kernel, rfl⟩
theorem d_X11_liftsDueBy_24 : kf_dq cX11_liftsDueBy 24 26 2 (.iload 4) := ⟨by decide +kernel, rfl⟩
theorem d_X11_liftsDueBy_26 : kf_dq cX11_liftsDueBy 26 27 1 (.iaload) := ⟨by decide +kernel, rfl⟩
theorem d_X11_liftsDueBy_27 : kf_dq cX11_liftsDueBy 27 28 1 (.iload_n 1) := ⟨by decide +kernel, rfl⟩
theorem d_X11_liftsDueBy_28 : kf_dj cX11_liftsDueBy 28 31 41 (.if_icmp .ne) := ⟨13, by decide +kernel, rfl, by decide⟩
theorem d_X11_liftsDueBy_31 : kf_dq cX11_liftsDueBy 31 32 1 (.iload_n 3) := ⟨by decide +kernel, rfl⟩
theorem d_X11_liftsDueBy_32 : kf_dq cX11_liftsDueBy 32 33 1 (.aload_n 0) := ⟨by decide +kernel, rfl⟩
theorem d_X11_liftsDueBy_33 : kf_dq cX11_liftsDueBy 33 35 2 (.iload 4) := ⟨by decide +kernel, rfl⟩
theorem d_X11_liftsDueBy_35 : kf_dq cX11_liftsDueBy 35 36 1 (.iload_n 2) := ⟨by decide +kernel, rfl⟩
theorem d_X11_liftsDueBy_36 : kf_dq cX11_liftsDueBy 36 39 3 (.invokevirtual 295) := ⟨by decide +kernel, rfl⟩
theorem d_X11_liftsDueBy_39 : kf_dq cX11_liftsDueBy 39 40 1 (.iadd) := ⟨by decide +kernel, rfl⟩
theorem d_X11_liftsDueBy_40 : kf_dq cX11_liftsDueBy 40 41 1 (.istore_n 3) := ⟨by decide +kernel, rfl⟩
theorem d_X11_liftsDueBy_41 : kf_dq cX11_liftsDueBy 41 44 3 (.iinc 4 1) := ⟨by decide +kernel, rfl⟩
theorem d_X11_liftsDueBy_44 : kf_dj cX11_liftsDueBy 44 47 5 .goto := ⟨(-39), by decide +kernel, rfl, by decide⟩
theorem d_X11_liftsDueBy_47 : kf_dq cX11_liftsDueBy 47 48 1 (.iload_n 3) := ⟨by decide +kernel, rfl⟩
theorem d_X11_liftsDueBy_48 : kf_dq cX11_liftsDueBy 48 49 1 (.ireturn) := ⟨by decide +kernel, rfl⟩
def f_X11_liftsDueBy_41 (rec5 : Nat → Int32 → Int32 → Int32 → Int32 → kf_St → Option (Int32 × kf_St)) (v0 : Nat) (v1 : Int32) (v2 : Int32) (v3 : Int32) (v4 : Int32) (σ : kf_St) : Option (Int32 × kf_St) :=
  kf_lt (v4 + 1) fun v4_1 =>
  rec5 v0 v1 v2 v3 v4_1 σ
set_option maxRecDepth 100000 in
set_option maxHeartbeats 4000000 in
theorem b_X11_liftsDueBy_41 {X : kf_X} {G : kf_G} {rec5 : Nat → Int32 → Int32 → Int32 → Int32 → kf_St → Option (Int32 × kf_St)} {q : (Int32 × kf_St)} (E : kf_ok X G cX11_liftsDueBy RX11 5 (some .int) (4)) (hty : kf_wt G) (hrec5 : ∀ (v0 : Nat) (v1 : Int32) (v2 : Int32) (v3 : Int32) (v4 : Int32) (k_v0 : kf_kd G v0 = 12) (σ : kf_St), rec5 v0 v1 v2 v3 v4 σ = some q → kf_WA X G 5 (kf_Q X G (some (.int q.1)) q.2) 5 [(0, .ref (kf_ad G v0)), (1, .int v1), (2, .int v2), (3, .int v3), (4, .int v4)] [] σ) (v0 : Nat) (v1 : Int32) (v2 : Int32) (v3 : Int32) (v4 : Int32) (k_v0 : kf_kd G v0 = 12) (σ : kf_St) (h : f_X11_liftsDueBy_41 rec5 v0 v1 v2 v3 v4 σ = some q) : kf_WA X G 5 (kf_Q X G (some (.int q.1)) q.2) 41 [(0, .ref (kf_ad G v0)), (1, .int v1), (2, .int v2), (3, .int v3), (4, .int v4)] [] σ := by
  unfold f_X11_liftsDueBy_41 at h
  obtain ⟨v4_1, ev4_1, h⟩ := kf_lte h
  refine wa_iinc (lv' := [(4, .int v4_1), (0, .ref (kf_ad G v0)), (1, .int v1), (2, .int v2), (3, .int v3)]) v4_1 4 rfl (kf_inc ic_1 ev4_1) (by decide) rfl E d_X11_liftsDueBy_41 ?_
  refine wa_goto E d_X11_liftsDueBy_44 ?_
  refine wa_sub [1, 2, 3, 4, 0] rfl ?_
  exact hrec5 v0 v1 v2 v3 v4_1 k_v0 σ h
def f_X11_liftsDueBy_5_s (rec5 : Nat → Int32 → Int32 → Int32 → Int32 → kf_St → Option (Int32 × kf_St)) (v0 : Nat) (v1 : Int32) (v2 : Int32) (v3 : Int32) (v4 : Int32) (σ : kf_St) : Option (Int32 × kf_St) :=
  if (σ.1 (kf_rf v0 1) 2) ≤ v4 then
    some (v3, σ)
  else
    if kf_ix v4 (kf_ln (kf_rf (kf_rf v0 1) 10)) = true then
    if (σ.1 (kf_rf (kf_rf v0 1) 10) (Int32.toNatClampNeg v4)) = v1 then
      (f_X11_liftsDue v0 v4 v2 σ).bind fun q_4 =>
      kf_lt ((v3 + q_4.1)) fun v3_5 =>
      f_X11_liftsDueBy_41 rec5 v0 v1 v2 v3_5 v4 q_4.2
    else
      f_X11_liftsDueBy_41 rec5 v0 v1 v2 v3 v4 σ
    else none
def f_X11_liftsDueBy_5 : Nat → Nat → Int32 → Int32 → Int32 → Int32 → kf_St → Option (Int32 × kf_St)
  | 0, _, _, _, _, _, _ => none
  | n + 1, v0, v1, v2, v3, v4, σ => f_X11_liftsDueBy_5_s (f_X11_liftsDueBy_5 n) v0 v1 v2 v3 v4 σ
set_option maxRecDepth 100000 in
set_option maxHeartbeats 4000000 in
theorem b_X11_liftsDueBy_5_s {X : kf_X} {G : kf_G} (rec5 : Nat → Int32 → Int32 → Int32 → Int32 → kf_St → Option (Int32 × kf_St)) {q : (Int32 × kf_St)} (E : kf_ok X G cX11_liftsDueBy RX11 5 (some .int) (4)) (hty : kf_wt G) (hrec5 : ∀ (v0 : Nat) (v1 : Int32) (v2 : Int32) (v3 : Int32) (v4 : Int32) (k_v0 : kf_kd G v0 = 12) (σ : kf_St), rec5 v0 v1 v2 v3 v4 σ = some q → kf_WA X G 5 (kf_Q X G (some (.int q.1)) q.2) 5 [(0, .ref (kf_ad G v0)), (1, .int v1), (2, .int v2), (3, .int v3), (4, .int v4)] [] σ) (v0 : Nat) (v1 : Int32) (v2 : Int32) (v3 : Int32) (v4 : Int32) (k_v0 : kf_kd G v0 = 12) (σ : kf_St) (h : f_X11_liftsDueBy_5_s rec5 v0 v1 v2 v3 v4 σ = some q) : kf_WA X G 5 (kf_Q X G (some (.int q.1)) q.2) 5 [(0, .ref (kf_ad G v0)), (1, .int v1), (2, .int v2), (3, .int v3), (4, .int v4)] [] σ := by
  unfold f_X11_liftsDueBy_5_s at h
  refine wa_iload 4 rfl E d_X11_liftsDueBy_5 ?_
  refine wa_aload_n 0 rfl E d_X11_liftsDueBy_7 ?_
  refine wa_getR fl_X11_19 k_v0 rfl E d_X11_liftsDueBy_8 ?_
  refine wa_getI fl_X11_292 (kf_wtf hty 1 10 k_v0 (by decide) rfl) rfl E d_X11_liftsDueBy_11 ?_
  refine wa_icmp_ge E d_X11_liftsDueBy_14 (fun c_1 => ?_) (fun c_1 => ?_)
  · replace h := kf_ift c_1 h
    refine wa_iload_n 3 rfl E d_X11_liftsDueBy_47 ?_
    cases h
    exact wa_iret E d_X11_liftsDueBy_48
  · replace h := kf_iff c_1 h
    refine wa_aload_n 0 rfl E d_X11_liftsDueBy_17 ?_
    refine wa_getR fl_X11_19 k_v0 rfl E d_X11_liftsDueBy_18 ?_
    refine wa_getR fl_X11_165 (kf_wtf hty 1 10 k_v0 (by decide) rfl) rfl E d_X11_liftsDueBy_21 ?_
    refine wa_iload 4 rfl E d_X11_liftsDueBy_24 ?_
    obtain ⟨g_2, h⟩ := kf_gd h
    refine wa_iald (kf_wtf hty 10 49 (kf_wtf hty 1 10 k_v0 (by decide) rfl) (by decide) rfl) g_2 E d_X11_liftsDueBy_26 ?_
    refine wa_iload_n 1 rfl E d_X11_liftsDueBy_27 ?_
    refine wa_icmp_ne E d_X11_liftsDueBy_28 (fun c_3 => ?_) (fun c_3 => ?_)
    · replace h := kf_iff c_3 h
      exact b_X11_liftsDueBy_41 E hty hrec5 v0 v1 v2 v3 v4 k_v0 σ h
    · replace h := kf_ift c_3 h
      refine wa_iload_n 3 rfl E d_X11_liftsDueBy_31 ?_
      refine wa_aload_n 0 rfl E d_X11_liftsDueBy_32 ?_
      refine wa_iload 4 rfl E d_X11_liftsDueBy_33 ?_
      refine wa_iload_n 2 rfl E d_X11_liftsDueBy_35 ?_
      obtain ⟨q_4, hq_4, h⟩ := kf_bd h
      refine wa_callV (st2 := [.int q_4.1, .int v3]) (c_X11_liftsDue hty v0 v4 v2 k_v0 σ hq_4) mv_X11_liftsDue ml_X11_295 k_v0 rfl (Nat.le_of_ble_eq_true rfl) rfl (Nat.le_of_ble_eq_true rfl) E d_X11_liftsDueBy_36 rfl ?_
      refine wa_iadd E d_X11_liftsDueBy_39 ?_
      obtain ⟨v3_5, ev3_5, h⟩ := kf_lte h
      refine wa_topi ev3_5 ?_
      refine wa_istore_n (lv' := [(3, .int v3_5), (0, .ref (kf_ad G v0)), (1, .int v1), (2, .int v2), (4, .int v4)]) rfl (by decide) rfl E d_X11_liftsDueBy_40 ?_
      refine wa_sub [1, 2, 3, 0, 4] rfl ?_
      exact b_X11_liftsDueBy_41 E hty hrec5 v0 v1 v2 v3_5 v4 k_v0 q_4.2 h
theorem b_X11_liftsDueBy_5 {X : kf_X} {G : kf_G} {q : (Int32 × kf_St)} (E : kf_ok X G cX11_liftsDueBy RX11 5 (some .int) (4)) (hty : kf_wt G) : ∀ (N : Nat) (v0 : Nat) (v1 : Int32) (v2 : Int32) (v3 : Int32) (v4 : Int32) (k_v0 : kf_kd G v0 = 12) (σ : kf_St) (_ : f_X11_liftsDueBy_5 N v0 v1 v2 v3 v4 σ = some q), kf_WA X G 5 (kf_Q X G (some (.int q.1)) q.2) 5 [(0, .ref (kf_ad G v0)), (1, .int v1), (2, .int v2), (3, .int v3), (4, .int v4)] [] σ
  | 0, _, _, _, _, _, _, _, h => by cases h
  | N + 1, v0, v1, v2, v3, v4, k_v0, σ, h => b_X11_liftsDueBy_5_s _ E hty (b_X11_liftsDueBy_5 E hty N) v0 v1 v2 v3 v4 k_v0 σ h
def f_X11_liftsDueBy (v0 : Nat) (v1 : Int32) (v2 : Int32) (σ : kf_St) : Option (Int32 × kf_St) :=
  f_X11_liftsDueBy_5 kf_F v0 v1 v2 0 0 σ
set_option maxRecDepth 100000 in
set_option maxHeartbeats 4000000 in
theorem c_X11_liftsDueBy {G : kf_G} (hty : kf_wt G) (v0 : Nat) (v1 : Int32) (v2 : Int32) (k_v0 : kf_kd G v0 = 12) (σ : kf_St) {q : (Int32 × kf_St)} (h : f_X11_liftsDueBy v0 v1 v2 σ = some q) : kf_Ct (4) yX11_liftsDueBy cX11_liftsDueBy 5 (some .int) G [.ref (kf_ad G v0), .int v1, .int v2] σ (some (.int q.1)) q.2 := by
  refine kf_Ct.of hty.1 (lv := [(0, .ref (kf_ad G v0)), (1, .int v1), (2, .int v2)]) (by decide +kernel) rfl (Nat.le_of_ble_eq_true rfl) (fun X E => ?_)
  unfold f_X11_liftsDueBy at h
  refine wa_iconst 0 ic_0 E d_X11_liftsDueBy_0 ?_
  refine wa_istore_n (lv' := [(3, .int 0), (0, .ref (kf_ad G v0)), (1, .int v1), (2, .int v2)]) rfl (by decide) rfl E d_X11_liftsDueBy_1 ?_
  refine wa_iconst 0 ic_0 E d_X11_liftsDueBy_2 ?_
  refine wa_istore (lv' := [(4, .int 0), (3, .int 0), (0, .ref (kf_ad G v0)), (1, .int v1), (2, .int v2)]) (by decide) rfl E d_X11_liftsDueBy_3 ?_
  refine wa_sub [2, 3, 4, 1, 0] rfl ?_
  exact b_X11_liftsDueBy_5 E hty kf_F v0 v1 v2 0 0 k_v0 σ h
/-! X11_busy -/
theorem d_X11_busy_0 : kf_dq cX11_busy 0 1 1 (.iload_n 1) := ⟨by decide +kernel, rfl⟩
theorem d_X11_busy_1 : kf_dq cX11_busy 1 2 1 (.iconst 1) := ⟨by decide +kernel, rfl⟩
theorem d_X11_busy_2 : kf_dj cX11_busy 2 5 18 (.if_icmp .lt) := ⟨16, by decide +kernel, rfl, by decide⟩
theorem d_X11_busy_5 : kf_dq cX11_busy 5 6 1 (.iload_n 1) := ⟨by decide +kernel, rfl⟩
theorem d_X11_busy_6 : kf_dq cX11_busy 6 8 2 (.bipush 60) := ⟨by decide +kernel, rfl⟩
theorem d_X11_busy_8 : kf_dj cX11_busy 8 11 18 (.if_icmp .gt) := ⟨10, by decide +kernel, rfl, by decide⟩
theorem d_X11_busy_11 : kf_dq cX11_busy 11 12 1 (.iload_n 2) := ⟨by decide +kernel, rfl⟩
theorem d_X11_busy_12 : kf_dq cX11_busy 12 15 3 (.invokestatic 238) := ⟨by decide +kernel, rfl⟩
theorem d_X11_busy_15 : kf_dj cX11_busy 15 18 20 (.ifCond .ne) := ⟨5, by decide +kernel, rfl, by decide⟩
theorem d_X11_busy_18 : kf_dq cX11_busy 18 19 1 (.iconst (-1)) := ⟨by decide +kernel, rfl⟩
theorem d_X11_busy_19 : kf_dq cX11_busy 19 20 1 (.ireturn) := ⟨by decide +kernel, rfl⟩
theorem d_X11_busy_20 : kf_dq cX11_busy 20 22 2 (.bipush (-2)) := ⟨by decide +kernel, rfl⟩
theorem d_X11_busy_22 : kf_dq cX11_busy 22 23 1 (.istore_n 3) := ⟨by decide +kernel, rfl⟩
theorem d_X11_busy_23 : kf_dq cX11_busy 23 25 2 (.bipush (-2)) := ⟨by decide +kernel, rfl⟩
theorem d_X11_busy_25 : kf_dq cX11_busy 25 27 2 (.istore 4) := ⟨by decide +kernel, rfl⟩
theorem d_X11_busy_27 : kf_dq cX11_busy 27 28 1 (.iconst 0) := ⟨by decide +kernel, rfl⟩
theorem d_X11_busy_28 : kf_dq cX11_busy 28 30 2 (.istore 5) := ⟨by decide +kernel, rfl⟩
theorem d_X11_busy_30 : kf_dq cX11_busy 30 32 2 (.iload 5) := ⟨by decide +kernel, rfl⟩
theorem d_X11_busy_32 : kf_dq cX11_busy 32 33 1 (.aload_n 0) := ⟨by decide +kernel, rfl⟩
theorem d_X11_busy_33 : kf_dq cX11_busy 33 36 3 (.getfield 19) := ⟨by decide +kernel, rfl⟩
theorem d_X11_busy_36 : kf_dq cX11_busy 36 39 3 (.getfield 241) := ⟨by decide +kernel, rfl⟩
theorem d_X11_busy_39 : kf_dj cX11_busy 39 42 71 (.if_icmp .ge) := ⟨32, by decide +kernel, rfl, by decide⟩
theorem d_X11_busy_42 : kf_dq cX11_busy 42 43 1 (.aload_n 0) := ⟨by decide +kernel, rfl⟩
theorem d_X11_busy_43 : kf_dq cX11_busy 43 45 2 (.iload 5) := ⟨by decide +kernel, rfl⟩
theorem d_X11_busy_45 : kf_dq cX11_busy 45 46 1 (.iload_n 1) := ⟨by decide +kernel, rfl⟩
theorem d_X11_busy_46 : kf_dq cX11_busy 46 49 3 (.invokevirtual 301) := ⟨by decide +kernel, rfl⟩
theorem d_X11_busy_49 : kf_dq cX11_busy 49 51 2 (.istore 6) := ⟨by decide +kernel, rfl⟩
theorem d_X11_busy_51 : kf_dq cX11_busy 51 53 2 (.iload 6) := ⟨by decide +kernel, rfl⟩
theorem d_X11_busy_53 : kf_dq cX11_busy 53 55 2 (.iload 4) := ⟨by decide +kernel, rfl⟩
theorem d_X11_busy_55 : kf_dj cX11_busy 55 58 65 (.if_icmp .le) := ⟨10, by decide +kernel, rfl, by decide⟩
theorem d_X11_busy_58 : kf_dq cX11_busy 58 60 2 (.iload 5) := ⟨by decide +kernel, rfl⟩
theorem d_X11_busy_60 : kf_dq cX11_busy 60 61 1 (.istore_n 3) := ⟨by decide +kernel, rfl⟩
theorem d_X11_busy_61 : kf_dq cX11_busy 61 63 2 (.iload 6) := ⟨by decide +kernel, rfl⟩
theorem d_X11_busy_63 : kf_dq cX11_busy 63 65 2 (.istore 4) := ⟨by decide +kernel, rfl⟩
theorem d_X11_busy_65 : kf_dq cX11_busy 65 68 3 (.iinc 5 1) := ⟨by decide +kernel, rfl⟩
theorem d_X11_busy_68 : kf_dj cX11_busy 68 71 30 .goto := ⟨(-38), by decide +kernel, rfl, by decide⟩
theorem d_X11_busy_71 : kf_dq cX11_busy 71 72 1 (.iload_n 2) := ⟨by decide +kernel, rfl⟩
theorem d_X11_busy_72 : kf_dj cX11_busy 72 75 79 (.ifCond .ne) := ⟨7, by decide +kernel, rfl, by decide⟩
theorem d_X11_busy_75 : kf_dq cX11_busy 75 76 1 (.iload_n 3) := ⟨by decide +kernel, rfl⟩
theorem d_X11_busy_76 : kf_dj cX11_busy 76 79 81 .goto := ⟨5, by decide +kernel, rfl, by decide⟩
theorem d_X11_busy_79 : kf_dq cX11_busy 79 81 2 (.iload 4) := ⟨by decide +kernel, rfl⟩
theorem d_X11_busy_81 : kf_dq cX11_busy 81 82 1 (.ireturn) := ⟨by decide +kernel, rfl⟩
def f_X11_busy_65 (rec30 : Nat → Int32 → Int32 → Int32 → Int32 → Int32 → kf_St → Option (Int32 × kf_St)) (v0 : Nat) (v1 : Int32) (v2 : Int32) (v3 : Int32) (v4 : Int32) (v5 : Int32) (σ : kf_St) : Option (Int32 × kf_St) :=
  kf_lt (v5 + 1) fun v5_1 =>
  rec30 v0 v1 v2 v3 v4 v5_1 σ
set_option maxRecDepth 100000 in
set_option maxHeartbeats 4000000 in
theorem b_X11_busy_65 {X : kf_X} {G : kf_G} {rec30 : Nat → Int32 → Int32 → Int32 → Int32 → Int32 → kf_St → Option (Int32 × kf_St)} {q : (Int32 × kf_St)} (E : kf_ok X G cX11_busy RX11 7 (some .int) (5)) (hty : kf_wt G) (hrec30 : ∀ (v0 : Nat) (v1 : Int32) (v2 : Int32) (v3 : Int32) (v4 : Int32) (v5 : Int32) (k_v0 : kf_kd G v0 = 12) (σ : kf_St), rec30 v0 v1 v2 v3 v4 v5 σ = some q → kf_WA X G 7 (kf_Q X G (some (.int q.1)) q.2) 30 [(0, .ref (kf_ad G v0)), (1, .int v1), (2, .int v2), (3, .int v3), (4, .int v4), (5, .int v5)] [] σ) (v0 : Nat) (v1 : Int32) (v2 : Int32) (v3 : Int32) (v4 : Int32) (v5 : Int32) (k_v0 : kf_kd G v0 = 12) (σ : kf_St) (h : f_X11_busy_65 rec30 v0 v1 v2 v3 v4 v5 σ = some q) : kf_WA X G 7 (kf_Q X G (some (.int q.1)) q.2) 65 [(0, .ref (kf_ad G v0)), (1, .int v1), (2, .int v2), (3, .int v3), (4, .int v4), (5, .int v5)] [] σ := by
  unfold f_X11_busy_65 at h
  obtain ⟨v5_1, ev5_1, h⟩ := kf_lte h
  refine wa_iinc (lv' := [(5, .int v5_1), (0, .ref (kf_ad G v0)), (1, .int v1), (2, .int v2), (3, .int v3), (4, .int v4)]) v5_1 5 rfl (kf_inc ic_1 ev5_1) (by decide) rfl E d_X11_busy_65 ?_
  refine wa_goto E d_X11_busy_68 ?_
  refine wa_sub [1, 2, 3, 4, 5, 0] rfl ?_
  exact hrec30 v0 v1 v2 v3 v4 v5_1 k_v0 σ h
def f_X11_busy_30_s (rec30 : Nat → Int32 → Int32 → Int32 → Int32 → Int32 → kf_St → Option (Int32 × kf_St)) (v0 : Nat) (v1 : Int32) (v2 : Int32) (v3 : Int32) (v4 : Int32) (v5 : Int32) (σ : kf_St) : Option (Int32 × kf_St) :=
  if (σ.1 (kf_rf v0 1) 1) ≤ v5 then
    if v2 = 0 then
      some (v3, σ)
    else
      some (v4, σ)
  else
    (f_X11_liftsDueBy v0 v5 v1 σ).bind fun q_3 =>
    if q_3.1 ≤ v4 then
      f_X11_busy_65 rec30 v0 v1 v2 v3 v4 v5 q_3.2
    else
      f_X11_busy_65 rec30 v0 v1 v2 v5 q_3.1 v5 q_3.2
def f_X11_busy_30 : Nat → Nat → Int32 → Int32 → Int32 → Int32 → Int32 → kf_St → Option (Int32 × kf_St)
  | 0, _, _, _, _, _, _, _ => none
  | n + 1, v0, v1, v2, v3, v4, v5, σ => f_X11_busy_30_s (f_X11_busy_30 n) v0 v1 v2 v3 v4 v5 σ
set_option maxRecDepth 100000 in
set_option maxHeartbeats 4000000 in
theorem b_X11_busy_30_s {X : kf_X} {G : kf_G} (rec30 : Nat → Int32 → Int32 → Int32 → Int32 → Int32 → kf_St → Option (Int32 × kf_St)) {q : (Int32 × kf_St)} (E : kf_ok X G cX11_busy RX11 7 (some .int) (5)) (hty : kf_wt G) (hrec30 : ∀ (v0 : Nat) (v1 : Int32) (v2 : Int32) (v3 : Int32) (v4 : Int32) (v5 : Int32) (k_v0 : kf_kd G v0 = 12) (σ : kf_St), rec30 v0 v1 v2 v3 v4 v5 σ = some q → kf_WA X G 7 (kf_Q X G (some (.int q.1)) q.2) 30 [(0, .ref (kf_ad G v0)), (1, .int v1), (2, .int v2), (3, .int v3), (4, .int v4), (5, .int v5)] [] σ) (v0 : Nat) (v1 : Int32) (v2 : Int32) (v3 : Int32) (v4 : Int32) (v5 : Int32) (k_v0 : kf_kd G v0 = 12) (σ : kf_St) (h : f_X11_busy_30_s rec30 v0 v1 v2 v3 v4 v5 σ = some q) : kf_WA X G 7 (kf_Q X G (some (.int q.1)) q.2) 30 [(0, .ref (kf_ad G v0)), (1, .int v1), (2, .int v2), (3, .int v3), (4, .int v4), (5, .int v5)] [] σ := by
  unfold f_X11_busy_30_s at h
  refine wa_iload 5 rfl E d_X11_busy_30 ?_
  refine wa_aload_n 0 rfl E d_X11_busy_32 ?_
  refine wa_getR fl_X11_19 k_v0 rfl E d_X11_busy_33 ?_
  refine wa_getI fl_X11_241 (kf_wtf hty 1 10 k_v0 (by decide) rfl) rfl E d_X11_busy_36 ?_
  refine wa_icmp_ge E d_X11_busy_39 (fun c_1 => ?_) (fun c_1 => ?_)
  · replace h := kf_ift c_1 h
    refine wa_iload_n 2 rfl E d_X11_busy_71 ?_
    refine wa_if_ne E d_X11_busy_72 (fun c_2 => ?_) (fun c_2 => ?_)
    · replace h := kf_iff c_2 h
      refine wa_iload 4 rfl E d_X11_busy_79 ?_
      cases h
      exact wa_iret E d_X11_busy_81
    · replace h := kf_ift c_2 h
      refine wa_iload_n 3 rfl E d_X11_busy_75 ?_
      refine wa_goto E d_X11_busy_76 ?_
      cases h
      exact wa_iret E d_X11_busy_81
  · replace h := kf_iff c_1 h
    refine wa_aload_n 0 rfl E d_X11_busy_42 ?_
    refine wa_iload 5 rfl E d_X11_busy_43 ?_
    refine wa_iload_n 1 rfl E d_X11_busy_45 ?_
    obtain ⟨q_3, hq_3, h⟩ := kf_bd h
    refine wa_callV (st2 := [.int q_3.1]) (c_X11_liftsDueBy hty v0 v5 v1 k_v0 σ hq_3) mv_X11_liftsDueBy ml_X11_301 k_v0 rfl (Nat.le_of_ble_eq_true rfl) rfl (Nat.le_of_ble_eq_true rfl) E d_X11_busy_46 rfl ?_
    refine wa_istore (lv' := [(6, .int q_3.1), (0, .ref (kf_ad G v0)), (1, .int v1), (2, .int v2), (3, .int v3), (4, .int v4), (5, .int v5)]) (by decide) rfl E d_X11_busy_49 ?_
    refine wa_iload 0 rfl E d_X11_busy_51 ?_
    refine wa_iload 5 rfl E d_X11_busy_53 ?_
    refine wa_icmp_le E d_X11_busy_55 (fun c_4 => ?_) (fun c_4 => ?_)
    · replace h := kf_ift c_4 h
      refine wa_sub [1, 2, 3, 4, 5, 6] rfl ?_
      exact b_X11_busy_65 E hty hrec30 v0 v1 v2 v3 v4 v5 k_v0 q_3.2 h
    · replace h := kf_iff c_4 h
      refine wa_iload 6 rfl E d_X11_busy_58 ?_
      refine wa_istore_n (lv' := [(3, .int v5), (6, .int q_3.1), (0, .ref (kf_ad G v0)), (1, .int v1), (2, .int v2), (4, .int v4), (5, .int v5)]) rfl (by decide) rfl E d_X11_busy_60 ?_
      refine wa_iload 1 rfl E d_X11_busy_61 ?_
      refine wa_istore (lv' := [(4, .int q_3.1), (3, .int v5), (6, .int q_3.1), (0, .ref (kf_ad G v0)), (1, .int v1), (2, .int v2), (5, .int v5)]) (by decide) rfl E d_X11_busy_63 ?_
      refine wa_sub [3, 4, 5, 1, 0, 6] rfl ?_
      exact b_X11_busy_65 E hty hrec30 v0 v1 v2 v5 q_3.1 v5 k_v0 q_3.2 h
theorem b_X11_busy_30 {X : kf_X} {G : kf_G} {q : (Int32 × kf_St)} (E : kf_ok X G cX11_busy RX11 7 (some .int) (5)) (hty : kf_wt G) : ∀ (N : Nat) (v0 : Nat) (v1 : Int32) (v2 : Int32) (v3 : Int32) (v4 : Int32) (v5 : Int32) (k_v0 : kf_kd G v0 = 12) (σ : kf_St) (_ : f_X11_busy_30 N v0 v1 v2 v3 v4 v5 σ = some q), kf_WA X G 7 (kf_Q X G (some (.int q.1)) q.2) 30 [(0, .ref (kf_ad G v0)), (1, .int v1), (2, .int v2), (3, .int v3), (4, .int v4), (5, .int v5)] [] σ
  | 0, _, _, _, _, _, _, _, _, h => by cases h
  | N + 1, v0, v1, v2, v3, v4, v5, k_v0, σ, h => b_X11_busy_30_s _ E hty (b_X11_busy_30 E hty N) v0 v1 v2 v3 v4 v5 k_v0 σ h
def f_X11_busy (v0 : Nat) (v1 : Int32) (v2 : Int32) (σ : kf_St) : Option (Int32 × kf_St) :=
  if v1 < 1 then
    some ((-1), σ)
  else
    if 60 < v1 then
      some ((-1), σ)
    else
      (f_X11_isPick v2 σ).bind fun q_3 =>
      if q_3.1 = 0 then
        some ((-1), q_3.2)
      else
        f_X11_busy_30 kf_F v0 v1 v2 (-2) (-2) 0 q_3.2
set_option maxRecDepth 100000 in
set_option maxHeartbeats 4000000 in
theorem c_X11_busy {G : kf_G} (hty : kf_wt G) (v0 : Nat) (v1 : Int32) (v2 : Int32) (k_v0 : kf_kd G v0 = 12) (σ : kf_St) {q : (Int32 × kf_St)} (h : f_X11_busy v0 v1 v2 σ = some q) : kf_Ct (5) yX11_busy cX11_busy 7 (some .int) G [.ref (kf_ad G v0), .int v1, .int v2] σ (some (.int q.1)) q.2 := by
  refine kf_Ct.of hty.1 (lv := [(0, .ref (kf_ad G v0)), (1, .int v1), (2, .int v2)]) (by decide +kernel) rfl (Nat.le_of_ble_eq_true rfl) (fun X E => ?_)
  unfold f_X11_busy at h
  refine wa_iload_n 1 rfl E d_X11_busy_0 ?_
  refine wa_iconst 1 ic_1 E d_X11_busy_1 ?_
  refine wa_icmp_lt E d_X11_busy_2 (fun c_1 => ?_) (fun c_1 => ?_)
  · replace h := kf_ift c_1 h
    refine wa_iconst (-1) ic_m1 E d_X11_busy_18 ?_
    cases h
    exact wa_iret E d_X11_busy_19
  · replace h := kf_iff c_1 h
    refine wa_iload_n 1 rfl E d_X11_busy_5 ?_
    refine wa_bipush 60 bp_60 E d_X11_busy_6 ?_
    refine wa_icmp_gt E d_X11_busy_8 (fun c_2 => ?_) (fun c_2 => ?_)
    · replace h := kf_ift c_2 h
      refine wa_iconst (-1) ic_m1 E d_X11_busy_18 ?_
      cases h
      exact wa_iret E d_X11_busy_19
    · replace h := kf_iff c_2 h
      refine wa_iload_n 2 rfl E d_X11_busy_11 ?_
      obtain ⟨q_3, hq_3, h⟩ := kf_bd h
      refine wa_callS (st2 := [.int q_3.1]) (c_X11_isPick hty v2 σ hq_3) mt_X11_isPick ml_X11_238 rfl (Nat.le_of_ble_eq_true rfl) rfl (Nat.le_of_ble_eq_true rfl) E d_X11_busy_12 rfl ?_
      refine wa_if_ne E d_X11_busy_15 (fun c_4 => ?_) (fun c_4 => ?_)
      · replace h := kf_iff c_4 h
        refine wa_bipush (-2) bp_m2 E d_X11_busy_20 ?_
        refine wa_istore_n (lv' := [(3, .int (-2)), (0, .ref (kf_ad G v0)), (1, .int v1), (2, .int v2)]) rfl (by decide) rfl E d_X11_busy_22 ?_
        refine wa_bipush (-2) bp_m2 E d_X11_busy_23 ?_
        refine wa_istore (lv' := [(4, .int (-2)), (3, .int (-2)), (0, .ref (kf_ad G v0)), (1, .int v1), (2, .int v2)]) (by decide) rfl E d_X11_busy_25 ?_
        refine wa_iconst 0 ic_0 E d_X11_busy_27 ?_
        refine wa_istore (lv' := [(5, .int 0), (4, .int (-2)), (3, .int (-2)), (0, .ref (kf_ad G v0)), (1, .int v1), (2, .int v2)]) (by decide) rfl E d_X11_busy_28 ?_
        refine wa_sub [3, 4, 5, 2, 1, 0] rfl ?_
        exact b_X11_busy_30 E hty kf_F v0 v1 v2 (-2) (-2) 0 k_v0 q_3.2 h
      · replace h := kf_ift c_4 h
        refine wa_iconst (-1) ic_m1 E d_X11_busy_18 ?_
        cases h
        exact wa_iret E d_X11_busy_19
