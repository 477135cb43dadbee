/-! X12_without -/
theorem d_X12_without_0 : kf_dq cX12_without 0 1 1 (.aload_n 0) := ⟨by decide +kernel, rfl⟩
theorem d_X12_without_1 : kf_dq cX12_without 1 2 1 (.iload_n 1) := ⟨by decide +kernel, rfl⟩
theorem d_X12_without_2 : kf_dq cX12_without 2 5 3 (.invokevirtual 396) := ⟨by decide +kernel, rfl⟩
theorem d_X12_without_5 : kf_dj cX12_without 5 8 15 (.ifCond .eq) := ⟨10, by decide +kernel, rfl, by decide⟩
theorem d_X12_without_8 : kf_dq cX12_without 8 9 1 (.iload_n 2) := ⟨by decide +kernel, rfl⟩
theorem d_X12_without_9 : kf_dq cX12_without 9 12 3 (.invokestatic 427) := ⟨by decide +kernel, rfl⟩
theorem d_X12_without_12 : kf_dj cX12_without 12 15 17 (.ifCond .ne) := ⟨5, by decide +kernel, rfl, by decide⟩
theorem d_X12_without_15 : kf_dq cX12_without 15 16 1 (.iconst (-1)) := ⟨by decide +kernel, rfl⟩
theorem d_X12_without_16 : kf_dq cX12_without 16 17 1 (.ireturn) := ⟨by decide +kernel, rfl⟩
theorem d_X12_without_17 : kf_dq cX12_without 17 18 1 (.aload_n 0) := ⟨by decide +kernel, rfl⟩
theorem d_X12_without_18 : kf_dq cX12_without 18 21 3 (.invokevirtual 430) := ⟨by decide +kernel, rfl⟩
theorem d_X12_without_21 : kf_dq cX12_without 21 22 1 (.aload_n 0) := ⟨by decide +kernel, rfl⟩
theorem d_X12_without_22 : kf_dq cX12_without 22 25 3 (.getfield 122) := ⟨by decide +kernel, rfl⟩
theorem d_X12_without_25 : kf_dq cX12_without 25 27 2 (.bipush 54) := ⟨by decide +kernel, rfl⟩
theorem d_X12_without_27 : kf_dq cX12_without 27 28 1 (.iload_n 1) := ⟨by decide +kernel, rfl⟩
theorem d_X12_without_28 : kf_dq cX12_without 28 29 1 (.iadd) := ⟨by decide +kernel, rfl⟩
theorem d_X12_without_29 : kf_dq cX12_without 29 30 1 (.iconst 0) := ⟨by decide +kernel, rfl⟩
theorem d_X12_without_30 : kf_dq cX12_without 30 31 1 (.iastore) := ⟨by decide +kernel, rfl⟩
theorem d_X12_without_31 : kf_dq cX12_without 31 32 1 (.aload_n 0) := ⟨by decide +kernel, rfl⟩
theorem d_X12_without_32 : kf_dq cX12_without 32 33 1 (.iload_n 2) := ⟨by decide +kernel, rfl⟩
theorem d_X12_without_33 : kf_dq cX12_without 33 36 3 (.invokevirtual 414) := ⟨by decide +kernel, rfl⟩
theorem d_X12_without_36 : kf_dq cX12_without 36 37 1 (.aload_n 0) := ⟨by decide +kernel, rfl⟩
theorem d_X12_without_37 : kf_dq cX12_without 37 38 1 (.aload_n 0) := ⟨by decide +kernel, rfl⟩
theorem d_X12_without_38 : kf_dq cX12_without 38 41 3 (.getfield 64) := ⟨by decide +kernel, rfl⟩
theorem d_X12_without_41 : kf_dq cX12_without 41 43 2 (.bipush 10) := ⟨by decide +kernel, rfl⟩
theorem d_X12_without_43 : kf_dq cX12_without 43 44 1 (.aload_n 0) := ⟨by decide +kernel, rfl⟩
theorem d_X12_without_44 : kf_dq cX12_without 44 47 3 (.getfield 233) := ⟨by decide +kernel, rfl⟩
theorem d_X12_without_47 : kf_dq cX12_without 47 48 1 (.imul) := ⟨by decide +kernel, rfl⟩
theorem d_X12_without_48 : kf_dq cX12_without 48 49 1 (.iload_n 1) := ⟨by decide +kernel, rfl⟩
theorem d_X12_without_49 : kf_dq cX12_without 49 50 1 (.iadd) := ⟨by decide +kernel, rfl⟩
theorem d_X12_without_50 : kf_dq cX12_without 50 51 1 (.iaload) := ⟨by decide +kernel, rfl⟩
theorem d_X12_without_51 : kf_dq cX12_without 51 54 3 (.invokevirtual 390) := ⟨by decide +kernel, rfl⟩
theorem d_X12_without_54 : kf_dq cX12_without 54 55 1 (.ireturn) := ⟨by decide +kernel, rfl⟩
def f_X12_without (v0 : Nat) (v1 : Int32) (v2 : Int32) (σ : kf_St) : Option (Int32 × kf_St) :=
  (f_X12_isRound v0 v1 σ).bind fun q_1 =>
  if q_1.1 = 0 then
    some ((-1), q_1.2)
  else
    (f_X12_isSome v2 q_1.2).bind fun q_3 =>
    if q_3.1 = 0 then
      some ((-1), q_3.2)
    else
      (f_X12_copiesStill v0 q_3.2).bind fun q_5 =>
      if kf_ix (54 + v1) (kf_ln (kf_rf v0 52)) = true then
      kf_lt (kf_wi q_5 (kf_rf v0 52) (Int32.toNatClampNeg (54 + v1)) 0) fun σ_7 =>
      (f_X12_goes v0 v2 σ_7).bind fun q_8 =>
      if kf_ix ((10 * (q_8.1 v0 18)) + v1) (kf_ln (kf_rf v0 29)) = true then
      (f_X12_knownBy v0 (q_8.1 (kf_rf v0 29) (Int32.toNatClampNeg ((10 * (q_8.1 v0 18)) + v1))) q_8).bind fun q_10 =>
      some (q_10.1, q_10.2)
      else none
      else none
set_option maxRecDepth 100000 in
set_option maxHeartbeats 4000000 in
theorem c_X12_without {G : kf_G} (hty : kf_wt G) (v0 : Nat) (v1 : Int32) (v2 : Int32) (k_v0 : kf_kd G v0 = 13) (σ : kf_St) {q : (Int32 × kf_St)} (h : f_X12_without v0 v1 v2 σ = some q) : kf_Ct (7) yX12_without cX12_without 3 (some .int) G [.ref (kf_ad G v0), .int v1, .int v2] σ (some (.int q.1)) q.2 := by
  refine kf_Ct.of hty.1 (lv := [(0, .ref (kf_ad G v0)), (1, .int v1), (2, .int v2)]) (by decide +kernel) rfl (Nat.le_of_ble_eq_true rfl) (fun X E => ?_)
  unfold f_X12_without at h
  refine wa_aload_n 0 rfl E d_X12_without_0 ?_
  refine wa_iload_n 1 rfl E d_X12_without_1 ?_
  obtain ⟨q_1, hq_1, h⟩ := kf_bd h
  refine wa_callV (st2 := [.int q_1.1]) (c_X12_isRound hty v0 v1 k_v0 σ hq_1) mv_X12_isRound ml_X12_396 k_v0 rfl (Nat.le_of_ble_eq_true rfl) rfl (Nat.le_of_ble_eq_true rfl) E d_X12_without_2 rfl ?_
  refine wa_if_eq E d_X12_without_5 (fun c_2 => ?_) (fun c_2 => ?_)
  · replace h := kf_ift c_2 h
    refine wa_iconst (-1) ic_m1 E d_X12_without_15 ?_
    cases h
    exact wa_iret E d_X12_without_16
  · replace h := kf_iff c_2 h
    refine wa_iload_n 2 rfl E d_X12_without_8 ?_
    obtain ⟨q_3, hq_3, h⟩ := kf_bd h
    refine wa_callS (st2 := [.int q_3.1]) (c_X12_isSome hty v2 q_1.2 hq_3) mt_X12_isSome ml_X12_427 rfl (Nat.le_of_ble_eq_true rfl) rfl (Nat.le_of_ble_eq_true rfl) E d_X12_without_9 rfl ?_
    refine wa_if_ne E d_X12_without_12 (fun c_4 => ?_) (fun c_4 => ?_)
    · replace h := kf_iff c_4 h
      refine wa_aload_n 0 rfl E d_X12_without_17 ?_
      obtain ⟨q_5, hq_5, h⟩ := kf_bd h
      refine wa_callV (st2 := []) (c_X12_copiesStill hty v0 k_v0 q_3.2 hq_5) mv_X12_copiesStill ml_X12_430 k_v0 rfl (Nat.le_of_ble_eq_true rfl) rfl (Nat.le_of_ble_eq_true rfl) E d_X12_without_18 rfl ?_
      refine wa_aload_n 0 rfl E d_X12_without_21 ?_
      refine wa_getR fl_X12_122 k_v0 rfl E d_X12_without_22 ?_
      refine wa_bipush 54 bp_54 E d_X12_without_25 ?_
      refine wa_iload_n 1 rfl E d_X12_without_27 ?_
      refine wa_iadd E d_X12_without_28 ?_
      refine wa_iconst 0 ic_0 E d_X12_without_29 ?_
      obtain ⟨g_6, h⟩ := kf_gd h
      obtain ⟨σ_7, eσ_7, h⟩ := kf_lte h
      refine wa_iast (kf_wtf hty 52 49 k_v0 (by decide) rfl) g_6 E d_X12_without_30 eσ_7 ?_
      refine wa_aload_n 0 rfl E d_X12_without_31 ?_
      refine wa_iload_n 2 rfl E d_X12_without_32 ?_
      obtain ⟨q_8, hq_8, h⟩ := kf_bd h
      refine wa_callV (st2 := []) (c_X12_goes hty v0 v2 k_v0 σ_7 hq_8) mv_X12_goes ml_X12_414 k_v0 rfl (Nat.le_of_ble_eq_true rfl) rfl (Nat.le_of_ble_eq_true rfl) E d_X12_without_33 rfl ?_
      refine wa_aload_n 0 rfl E d_X12_without_36 ?_
      refine wa_aload_n 0 rfl E d_X12_without_37 ?_
      refine wa_getR fl_X12_64 k_v0 rfl E d_X12_without_38 ?_
      refine wa_bipush 10 bp_10 E d_X12_without_41 ?_
      refine wa_aload_n 0 rfl E d_X12_without_43 ?_
      refine wa_getI fl_X12_233 k_v0 rfl E d_X12_without_44 ?_
      refine wa_imul E d_X12_without_47 ?_
      refine wa_iload_n 1 rfl E d_X12_without_48 ?_
      refine wa_iadd E d_X12_without_49 ?_
      obtain ⟨g_9, h⟩ := kf_gd h
      refine wa_iald (kf_wtf hty 29 49 k_v0 (by decide) rfl) g_9 E d_X12_without_50 ?_
      obtain ⟨q_10, hq_10, h⟩ := kf_bd h
      refine wa_callV (st2 := [.int q_10.1]) (c_X12_knownBy hty v0 (q_8.1 (kf_rf v0 29) (Int32.toNatClampNeg ((10 * (q_8.1 v0 18)) + v1))) k_v0 q_8 hq_10) mv_X12_knownBy ml_X12_390 k_v0 rfl (Nat.le_of_ble_eq_true rfl) rfl (Nat.le_of_ble_eq_true rfl) E d_X12_without_51 rfl ?_
      cases h
      exact wa_iret E d_X12_without_54
    · replace h := kf_ift c_4 h
      refine wa_iconst (-1) ic_m1 E d_X12_without_15 ?_
      cases h
      exact wa_iret E d_X12_without_16
/-! X12_doorsApart -/
theorem d_X12_doorsApart_0 : kf_dq cX12_doorsApart 0 1 1 (.iconst 0) := ⟨by decide +kernel, rfl⟩
theorem d_X12_doorsApart_1 : kf_dq cX12_doorsApart 1 2 1 (.istore_n 3) := ⟨by decide +kernel, rfl⟩
theorem d_X12_doorsApart_2 : kf_dq cX12_doorsApart 2 3 1 (.iconst 0) := ⟨by decide +kernel, rfl⟩
theorem d_X12_doorsApart_3 : kf_dq cX12_doorsApart 3 5 2 (.istore 4) := ⟨by decide +kernel, rfl⟩
theorem d_X12_doorsApart_5 : kf_dq cX12_doorsApart 5 7 2 (.iload 4) := ⟨by decide +kernel, rfl⟩
theorem d_X12_doorsApart_7 : kf_dq cX12_doorsApart 7 8 1 (.iconst 4) := ⟨by decide +kernel, rfl⟩
theorem d_X12_doorsApart_8 : kf_dj cX12_doorsApart 8 11 45 (.if_icmp .ge) := ⟨37, by decide +kernel, rfl, by decide⟩
theorem d_X12_doorsApart_11 : kf_dq cX12_doorsApart 11 12 1 (.iload_n 3) := ⟨by decide +kernel, rfl⟩
theorem d_X12_doorsApart_12 : kf_dq cX12_doorsApart 12 13 1 (.aload_n 0) := ⟨by decide +kernel, rfl⟩
theorem d_X12_doorsApart_13 : kf_dq cX12_doorsApart 13 16 3 (.getfield 119) := ⟨by decide +kernel, rfl⟩
theorem d_X12_doorsApart_16 : kf_dq cX12_doorsApart 16 17 1 (.iconst 4) := ⟨by decide +kernel, rfl⟩
theorem d_X12_doorsApart_17 : kf_dq cX12_doorsApart 17 18 1 (.iload_n 1) := ⟨by decide +kernel, rfl⟩
theorem d_X12_doorsApart_18 : kf_dq cX12_doorsApart 18 19 1 (.imul) := ⟨by decide +kernel, rfl⟩
theorem d_X12_doorsApart_19 : kf_dq cX12_doorsApart 19 21 2 (.iload 4) := ⟨by decide +kernel, rfl⟩
theorem d_X12_doorsApart_21 : kf_dq cX12_doorsApart 21 22 1 (.iadd) := ⟨by decide +kernel, rfl⟩
theorem d_X12_doorsApart_22 : kf_dq cX12_doorsApart 22 23 1 (.iaload) := ⟨by decide +kernel, rfl⟩
theorem d_X12_doorsApart_23 : kf_dq cX12_doorsApart 23 24 1 (.aload_n 0) := ⟨by decide +kernel, rfl⟩
theorem d_X12_doorsApart_24 : kf_dq cX12_doorsApart 24 27 3 (.getfield 119) := ⟨by decide +kernel, rfl⟩
theorem d_X12_doorsApart_27 : kf_dq cX12_doorsApart 27 28 1 (.iconst 4) := ⟨by decide +kernel, rfl⟩
theorem d_X12_doorsApart_28 : kf_dq cX12_doorsApart 28 29 1 (.iload_n 2) := ⟨by decide +kernel, rfl⟩
theorem d_X12_doorsApart_29 : kf_dq cX12_doorsApart 29 30 1 (.imul) := ⟨by decide +kernel, rfl⟩
theorem d_X12_doorsApart_30 : kf_dq cX12_doorsApart 30 32 2 (.iload 4) := ⟨by decide +kernel, rfl⟩
theorem d_X12_doorsApart_32 : kf_dq cX12_doorsApart 32 33 1 (.iadd) := ⟨by decide +kernel, rfl⟩
theorem d_X12_doorsApart_33 : kf_dq cX12_doorsApart 33 34 1 (.iaload) := ⟨by decide +kernel, rfl⟩
theorem d_X12_doorsApart_34 : kf_dq cX12_doorsApart 34 37 3 (.invokestatic 336) := ⟨by decide +kernel, rfl⟩
theorem d_X12_doorsApart_37 : kf_dq cX12_doorsApart 37 38 1 (.iadd) := ⟨by decide +kernel, rfl⟩
theorem d_X12_doorsApart_38 : kf_dq cX12_doorsApart 38 39 1 (.istore_n 3) := ⟨by decide +kernel, rfl⟩
theorem d_X12_doorsApart_39 : kf_dq cX12_doorsApart 39 42 3 (.iinc 4 1) := ⟨by decide +kernel, rfl⟩
theorem d_X12_doorsApart_42 : kf_dj cX12_doorsApart 42 45 5 .goto := ⟨(-37), by decide +kernel, rfl, by decide⟩
theorem d_X12_doorsApart_45 : kf_dq cX12_doorsApart 45 46 1 (.iload_n 3) := ⟨by decide +kernel, rfl⟩
theorem d_X12_doorsApart_46 : kf_dq cX12_doorsApart 46 47 1 (.ireturn) := ⟨by decide +kernel, rfl⟩
def f_X12_doorsApart_5_s (rec5 : Nat → Int32 → Int32 → Int32 → Int32 → kf_St → Option (Int32 × kf_St)) (v0 : Nat) (v1 : Int32) (v2 : Int32) (v3 : Int32) (v4 : Int32) (σ : kf_St) : Option (Int32 × kf_St) :=
  if 4 ≤ v4 then
    some (v3, σ)
  else
    if kf_ix ((4 * v1) + v4) (kf_ln (kf_rf v0 51)) = true then
    if kf_ix ((4 * v2) + v4) (kf_ln (kf_rf v0 51)) = true then
    (f_X12_off (σ.1 (kf_rf v0 51) (Int32.toNatClampNeg ((4 * v1) + v4))) (σ.1 (kf_rf v0 51) (Int32.toNatClampNeg ((4 * v2) + v4))) σ).bind fun q_4 =>
    kf_lt ((v3 + q_4.1)) fun v3_5 =>
    kf_lt (v4 + 1) fun v4_6 =>
    rec5 v0 v1 v2 v3_5 v4_6 q_4.2
    else none
    else none
def f_X12_doorsApart_5 : Nat → Nat → Int32 → Int32 → Int32 → Int32 → kf_St → Option (Int32 × kf_St)
  | 0, _, _, _, _, _, _ => none
  | n + 1, v0, v1, v2, v3, v4, σ => f_X12_doorsApart_5_s (f_X12_doorsApart_5 n) v0 v1 v2 v3 v4 σ
set_option maxRecDepth 100000 in
set_option maxHeartbeats 4000000 in
theorem b_X12_doorsApart_5_s {X : kf_X} {G : kf_G} (rec5 : Nat → Int32 → Int32 → Int32 → Int32 → kf_St → Option (Int32 × kf_St)) {q : (Int32 × kf_St)} (E : kf_ok X G cX12_doorsApart RX12 5 (some .int) (2)) (hty : kf_wt G) (hrec5 : ∀ (v0 : Nat) (v1 : Int32) (v2 : Int32) (v3 : Int32) (v4 : Int32) (k_v0 : kf_kd G v0 = 13) (σ : kf_St), rec5 v0 v1 v2 v3 v4 σ = some q → kf_WA X G 5 (kf_Q X G (some (.int q.1)) q.2) 5 [(0, .ref (kf_ad G v0)), (1, .int v1), (2, .int v2), (3, .int v3), (4, .int v4)] [] σ) (v0 : Nat) (v1 : Int32) (v2 : Int32) (v3 : Int32) (v4 : Int32) (k_v0 : kf_kd G v0 = 13) (σ : kf_St) (h : f_X12_doorsApart_5_s rec5 v0 v1 v2 v3 v4 σ = some q) : kf_WA X G 5 (kf_Q X G (some (.int q.1)) q.2) 5 [(0, .ref (kf_ad G v0)), (1, .int v1), (2, .int v2), (3, .int v3), (4, .int v4)] [] σ := by
  unfold f_X12_doorsApart_5_s at h
  refine wa_iload 4 rfl E d_X12_doorsApart_5 ?_
  refine wa_iconst 4 ic_4 E d_X12_doorsApart_7 ?_
  refine wa_icmp_ge E d_X12_doorsApart_8 (fun c_1 => ?_) (fun c_1 => ?_)
  · replace h := kf_ift c_1 h
    refine wa_iload_n 3 rfl E d_X12_doorsApart_45 ?_
    cases h
    exact wa_iret E d_X12_doorsApart_46
  · replace h := kf_iff c_1 h
    refine wa_iload_n 3 rfl E d_X12_doorsApart_11 ?_
    refine wa_aload_n 0 rfl E d_X12_doorsApart_12 ?_
    refine wa_getR fl_X12_119 k_v0 rfl E d_X12_doorsApart_13 ?_
    refine wa_iconst 4 ic_4 E d_X12_doorsApart_16 ?_
    refine wa_iload_n 1 rfl E d_X12_doorsApart_17 ?_
    refine wa_imul E d_X12_doorsApart_18 ?_
    refine wa_iload 4 rfl E d_X12_doorsApart_19 ?_
    refine wa_iadd E d_X12_doorsApart_21 ?_
    obtain ⟨g_2, h⟩ := kf_gd h
    refine wa_iald (kf_wtf hty 51 49 k_v0 (by decide) rfl) g_2 E d_X12_doorsApart_22 ?_
    refine wa_aload_n 0 rfl E d_X12_doorsApart_23 ?_
    refine wa_getR fl_X12_119 k_v0 rfl E d_X12_doorsApart_24 ?_
    refine wa_iconst 4 ic_4 E d_X12_doorsApart_27 ?_
    refine wa_iload_n 2 rfl E d_X12_doorsApart_28 ?_
    refine wa_imul E d_X12_doorsApart_29 ?_
    refine wa_iload 4 rfl E d_X12_doorsApart_30 ?_
    refine wa_iadd E d_X12_doorsApart_32 ?_
    obtain ⟨g_3, h⟩ := kf_gd h
    refine wa_iald (kf_wtf hty 51 49 k_v0 (by decide) rfl) g_3 E d_X12_doorsApart_33 ?_
    obtain ⟨q_4, hq_4, h⟩ := kf_bd h
    refine wa_callS (st2 := [.int q_4.1, .int v3]) (c_X12_off hty (σ.1 (kf_rf v0 51) (Int32.toNatClampNeg ((4 * v1) + v4))) (σ.1 (kf_rf v0 51) (Int32.toNatClampNeg ((4 * v2) + v4))) σ hq_4) mt_X12_off ml_X12_336 rfl (Nat.le_of_ble_eq_true rfl) rfl (Nat.le_of_ble_eq_true rfl) E d_X12_doorsApart_34 rfl ?_
    refine wa_iadd E d_X12_doorsApart_37 ?_
    obtain ⟨v3_5, ev3_5, h⟩ := kf_lte h
    refine wa_topi ev3_5 ?_
    refine wa_istore_n (lv' := [(3, .int v3_5), (0, .ref (kf_ad G v0)), (1, .int v1), (2, .int v2), (4, .int v4)]) rfl (by decide) rfl E d_X12_doorsApart_38 ?_
    obtain ⟨v4_6, ev4_6, h⟩ := kf_lte h
    refine wa_iinc (lv' := [(4, .int v4_6), (3, .int v3_5), (0, .ref (kf_ad G v0)), (1, .int v1), (2, .int v2)]) v4_6 4 rfl (kf_inc ic_1 ev4_6) (by decide) rfl E d_X12_doorsApart_39 ?_
    refine wa_goto E d_X12_doorsApart_42 ?_
    refine wa_sub [2, 3, 4, 1, 0] rfl ?_
    exact hrec5 v0 v1 v2 v3_5 v4_6 k_v0 q_4.2 h
theorem b_X12_doorsApart_5 {X : kf_X} {G : kf_G} {q : (Int32 × kf_St)} (E : kf_ok X G cX12_doorsApart RX12 5 (some .int) (2)) (hty : kf_wt G) : ∀ (N : Nat) (v0 : Nat) (v1 : Int32) (v2 : Int32) (v3 : Int32) (v4 : Int32) (k_v0 : kf_kd G v0 = 13) (σ : kf_St) (_ : f_X12_doorsApart_5 N v0 v1 v2 v3 v4 σ = some q), kf_WA X G 5 (kf_Q X G (some (.int q.1)) q.2) 5 [(0, .ref (kf_ad G v0)), (1, .int v1), (2, .int v2), (3, .int v3), (4, .int v4)] [] σ
  | 0, _, _, _, _, _, _, _, h => by cases h
  | N + 1, v0, v1, v2, v3, v4, k_v0, σ, h => b_X12_doorsApart_5_s _ E hty (b_X12_doorsApart_5 E hty N) v0 v1 v2 v3 v4 k_v0 σ h
def f_X12_doorsApart (v0 : Nat) (v1 : Int32) (v2 : Int32) (σ : kf_St) : Option (Int32 × kf_St) :=
  f_X12_doorsApart_5 kf_F v0 v1 v2 0 0 σ
set_option maxRecDepth 100000 in
set_option maxHeartbeats 4000000 in
theorem c_X12_doorsApart {G : kf_G} (hty : kf_wt G) (v0 : Nat) (v1 : Int32) (v2 : Int32) (k_v0 : kf_kd G v0 = 13) (σ : kf_St) {q : (Int32 × kf_St)} (h : f_X12_doorsApart v0 v1 v2 σ = some q) : kf_Ct (2) yX12_doorsApart cX12_doorsApart 5 (some .int) G [.ref (kf_ad G v0), .int v1, .int v2] σ (some (.int q.1)) q.2 := by
  refine kf_Ct.of hty.1 (lv := [(0, .ref (kf_ad G v0)), (1, .int v1), (2, .int v2)]) (by decide +kernel) rfl (Nat.le_of_ble_eq_true rfl) (fun X E => ?_)
  unfold f_X12_doorsApart at h
  refine wa_iconst 0 ic_0 E d_X12_doorsApart_0 ?_
  refine wa_istore_n (lv' := [(3, .int 0), (0, .ref (kf_ad G v0)), (1, .int v1), (2, .int v2)]) rfl (by decide) rfl E d_X12_doorsApart_1 ?_
  refine wa_iconst 0 ic_0 E d_X12_doorsApart_2 ?_
  refine wa_istore (lv' := [(4, .int 0), (3, .int 0), (0, .ref (kf_ad G v0)), (1, .int v1), (2, .int v2)]) (by decide) rfl E d_X12_doorsApart_3 ?_
  refine wa_sub [2, 3, 4, 1, 0] rfl ?_
  exact b_X12_doorsApart_5 E hty kf_F v0 v1 v2 0 0 k_v0 σ h
/-! X12_twins -/
theorem d_X12_twins_0 : kf_dq cX12_twins 0 1 1 (.iload_n 1) := ⟨by decide +kernel, rfl⟩
theorem d_X12_twins_1 : kf_dq cX12_twins 1 2 1 (.iconst 0) := ⟨by decide +kernel, rfl⟩
theorem d_X12_twins_2 : kf_dq cX12_twins 2 3 1 (.iconst 1) := ⟨by decide +kernel, rfl⟩
theorem d_X12_twins_3 : kf_dq cX12_twins 3 6 3 (.invokestatic 313) := ⟨by decide +kernel, rfl⟩
theorem d_X12_twins_6 : kf_dj cX12_twins 6 9 11 (.ifCond .ne) := ⟨5, by decide +kernel, rfl, by decide⟩
theorem d_X12_twins_9 : kf_dq cX12_twins 9 10 1 (.iconst (-1)) := ⟨by decide +kernel, rfl⟩
theorem d_X12_twins_10 : kf_dq cX12_twins 10 11 1 (.ireturn) := ⟨by decide +kernel, rfl⟩
theorem d_X12_twins_11 : kf_dq cX12_twins 11 13 2 (.bipush (-2)) := ⟨by decide +kernel, rfl⟩
theorem d_X12_twins_13 : kf_dq cX12_twins 13 14 1 (.istore_n 2) := ⟨by decide +kernel, rfl⟩
theorem d_X12_twins_14 : kf_dq cX12_twins 14 16 2 (.bipush (-2)) := ⟨by decide +kernel, rfl⟩
theorem d_X12_twins_16 : kf_dq cX12_twins 16 17 1 (.istore_n 3) := ⟨by decide +kernel, rfl⟩
theorem d_X12_twins_17 : kf_dq cX12_twins 17 18 1 (.iconst 0) := ⟨by decide +kernel, rfl⟩
theorem d_X12_twins_18 : kf_dq cX12_twins 18 20 2 (.istore 4) := ⟨by decide +kernel, rfl⟩
theorem d_X12_twins_20 : kf_dq cX12_twins 20 22 2 (.iload 4) := ⟨by decide +kernel, rfl⟩
theorem d_X12_twins_22 : kf_dq cX12_twins 22 23 1 (.aload_n 0) := ⟨by decide +kernel, rfl⟩
theorem d_X12_twins_23 : kf_dq cX12_twins 23 26 3 (.getfield 46) := ⟨by decide +kernel, rfl⟩
theorem d_X12_twins_26 : kf_dq cX12_twins 26 27 1 (.aload_n 0) := ⟨by decide +kernel, rfl⟩
theorem d_X12_twins_27 : kf_dq cX12_twins 27 30 3 (.getfield 233) := ⟨by decide +kernel, rfl⟩
theorem d_X12_twins_30 : kf_dq cX12_twins 30 31 1 (.iaload) := ⟨by decide +kernel, rfl⟩
theorem d_X12_twins_31 : kf_dj cX12_twins 31 34 103 (.if_icmp .ge) := ⟨72, by decide +kernel, rfl, by decide⟩
theorem d_X12_twins_34 : kf_dq cX12_twins 34 36 2 (.iload 4) := ⟨by decide +kernel, rfl⟩
theorem d_X12_twins_36 : kf_dq cX12_twins 36 37 1 (.iconst 1) := ⟨by decide +kernel, rfl⟩
theorem d_X12_twins_37 : kf_dq cX12_twins 37 38 1 (.iadd) := ⟨by decide +kernel, rfl⟩
theorem d_X12_twins_38 : kf_dq cX12_twins 38 40 2 (.istore 5) := ⟨by decide +kernel, rfl⟩
theorem d_X12_twins_40 : kf_dq cX12_twins 40 42 2 (.iload 5) := ⟨by decide +kernel, rfl⟩
theorem d_X12_twins_42 : kf_dq cX12_twins 42 43 1 (.aload_n 0) := ⟨by decide +kernel, rfl⟩
theorem d_X12_twins_43 : kf_dq cX12_twins 43 46 3 (.getfield 46) := ⟨by decide +kernel, rfl⟩
theorem d_X12_twins_46 : kf_dq cX12_twins 46 47 1 (.aload_n 0) := ⟨by decide +kernel, rfl⟩
theorem d_X12_twins_47 : kf_dq cX12_twins 47 50 3 (.getfield 233) := ⟨by decide +kernel, rfl⟩
theorem d_X12_twins_50 : kf_dq cX12_twins 50 51 1 (.iaload) := ⟨by decide +kernel, rfl⟩
theorem d_X12_twins_51 : kf_dj cX12_twins 51 54 97 (.if_icmp .ge) := ⟨46, by decide +kernel, rfl, by decide⟩
theorem d_X12_twins_54 : kf_dq cX12_twins 54 55 1 (.iload_n 2) := ⟨by decide +kernel, rfl⟩
theorem d_X12_twins_55 : kf_dj cX12_twins 55 58 73 (.ifCond .lt) := ⟨18, by decide +kernel, rfl, by decide⟩
theorem d_X12_twins_58 : kf_dq cX12_twins 58 59 1 (.aload_n 0) := ⟨by decide +kernel, rfl⟩
theorem d_X12_twins_59 : kf_dq cX12_twins 59 61 2 (.iload 4) := ⟨by decide +kernel, rfl⟩
theorem d_X12_twins_61 : kf_dq cX12_twins 61 63 2 (.iload 5) := ⟨by decide +kernel, rfl⟩
theorem d_X12_twins_63 : kf_dq cX12_twins 63 66 3 (.invokevirtual 433) := ⟨by decide +kernel, rfl⟩
theorem d_X12_twins_66 : kf_dq cX12_twins 66 67 1 (.iload_n 3) := ⟨by decide +kernel, rfl⟩
theorem d_X12_twins_67 : kf_dj cX12_twins 67 70 73 (.if_icmp .lt) := ⟨6, by decide +kernel, rfl, by decide⟩
theorem d_X12_twins_70 : kf_dj cX12_twins 70 73 91 .goto := ⟨21, by decide +kernel, rfl, by decide⟩
theorem d_X12_twins_73 : kf_dq cX12_twins 73 75 2 (.bipush 10) := ⟨by decide +kernel, rfl⟩
theorem d_X12_twins_75 : kf_dq cX12_twins 75 77 2 (.iload 4) := ⟨by decide +kernel, rfl⟩
theorem d_X12_twins_77 : kf_dq cX12_twins 77 78 1 (.imul) := ⟨by decide +kernel, rfl⟩
theorem d_X12_twins_78 : kf_dq cX12_twins 78 80 2 (.iload 5) := ⟨by decide +kernel, rfl⟩
theorem d_X12_twins_80 : kf_dq cX12_twins 80 81 1 (.iadd) := ⟨by decide +kernel, rfl⟩
theorem d_X12_twins_81 : kf_dq cX12_twins 81 82 1 (.istore_n 2) := ⟨by decide +kernel, rfl⟩
theorem d_X12_twins_82 : kf_dq cX12_twins 82 83 1 (.aload_n 0) := ⟨by decide +kernel, rfl⟩
theorem d_X12_twins_83 : kf_dq cX12_twins 83 85 2 (.iload 4) := ⟨by decide +kernel, rfl⟩
theorem d_X12_twins_85 : kf_dq cX12_twins 85 87 2 (.iload 5) := ⟨by decide +kernel, rfl⟩
theorem d_X12_twins_87 : kf_dq cX12_twins 87 90 3 (.invokevirtual 433) := ⟨by decide +kernel, rfl⟩
theorem d_X12_twins_90 : kf_dq cX12_twins 90 91 1 (.istore_n 3) := ⟨by decide +kernel, rfl⟩
theorem d_X12_twins_91 : kf_dq cX12_twins 91 94 3 (.iinc 5 1) := ⟨by decide +kernel, rfl⟩
theorem d_X12_twins_94 : kf_dj cX12_twins 94 97 40 .goto := ⟨(-54), by decide +kernel, rfl, by decide⟩
theorem d_X12_twins_97 : kf_dq cX12_twins 97 100 3 (.iinc 4 1) := ⟨by decide +kernel, rfl⟩
theorem d_X12_twins_100 : kf_dj cX12_twins 100 103 20 .goto := ⟨(-80), by decide +kernel, rfl, by decide⟩
theorem d_X12_twins_103 : kf_dq cX12_twins 103 104 1 (.iload_n 1) := ⟨by decide +kernel, rfl⟩
theorem d_X12_twins_104 : kf_dj cX12_twins 104 107 111 (.ifCond .ne) := ⟨7, by decide +kernel, rfl, by decide⟩
theorem d_X12_twins_107 : kf_dq cX12_twins 107 108 1 (.iload_n 2) := ⟨by decide +kernel, rfl⟩
theorem d_X12_twins_108 : kf_dj cX12_twins 108 111 112 .goto := ⟨4, by decide +kernel, rfl, by decide⟩
theorem d_X12_twins_111 : kf_dq cX12_twins 111 112 1 (.iload_n 3) := ⟨by decide +kernel, rfl⟩
theorem d_X12_twins_112 : kf_dq cX12_twins 112 113 1 (.ireturn) := ⟨by decide +kernel, rfl⟩
def f_X12_twins_91 (rec20 : Nat → Int32 → Int32 → Int32 → Int32 → kf_St → Option (Int32 × kf_St)) (rec40 : Nat → Int32 → Int32 → Int32 → Int32 → Int32 → kf_St → Option (Int32 × kf_St)) (v0 : Nat) (v1 : Int32) (v2 : Int32) (v3 : Int32) (v4 : Int32) (v5 : Int32) (σ : kf_St) : Option (Int32 × kf_St) :=
  kf_lt (v5 + 1) fun v5_1 =>
  rec40 v0 v1 v2 v3 v4 v5_1 σ
set_option maxRecDepth 100000 in
set_option maxHeartbeats 4000000 in
theorem b_X12_twins_91 {X : kf_X} {G : kf_G} {rec20 : Nat → Int32 → Int32 → Int32 → Int32 → kf_St → Option (Int32 × kf_St)} {rec40 : Nat → Int32 → Int32 → Int32 → Int32 → Int32 → kf_St → Option (Int32 × kf_St)} {q : (Int32 × kf_St)} (E : kf_ok X G cX12_twins RX12 6 (some .int) (3)) (hty : kf_wt G) (hrec20 : ∀ (v0 : Nat) (v1 : Int32) (v2 : Int32) (v3 : Int32) (v4 : Int32) (k_v0 : kf_kd G v0 = 13) (σ : kf_St), rec20 v0 v1 v2 v3 v4 σ = some q → kf_WA X G 6 (kf_Q X G (some (.int q.1)) q.2) 20 [(0, .ref (kf_ad G v0)), (1, .int v1), (2, .int v2), (3, .int v3), (4, .int v4)] [] σ) (hrec40 : ∀ (v0 : Nat) (v1 : Int32) (v2 : Int32) (v3 : Int32) (v4 : Int32) (v5 : Int32) (k_v0 : kf_kd G v0 = 13) (σ : kf_St), rec40 v0 v1 v2 v3 v4 v5 σ = some q → kf_WA X G 6 (kf_Q X G (some (.int q.1)) q.2) 40 [(0, .ref (kf_ad G v0)), (1, .int v1), (2, .int v2), (3, .int v3), (4, .int v4), (5, .int v5)] [] σ) (v0 : Nat) (v1 : Int32) (v2 : Int32) (v3 : Int32) (v4 : Int32) (v5 : Int32) (k_v0 : kf_kd G v0 = 13) (σ : kf_St) (h : f_X12_twins_91 rec20 rec40 v0 v1 v2 v3 v4 v5 σ = some q) : kf_WA X G 6 (kf_Q X G (some (.int q.1)) q.2) 91 [(0, .ref (kf_ad G v0)), (1, .int v1), (2, .int v2), (3, .int v3), (4, .int v4), (5, .int v5)] [] σ := by
  unfold f_X12_twins_91 at h
  obtain ⟨v5_1, ev5_1, h⟩ := kf_lte h
  refine wa_iinc (lv' := [(5, .int v5_1), (0, .ref (kf_ad G v0)), (1, .int v1), (2, .int v2), (3, .int v3), (4, .int v4)]) v5_1 5 rfl (kf_inc ic_1 ev5_1) (by decide) rfl E d_X12_twins_91 ?_
  refine wa_goto E d_X12_twins_94 ?_
  refine wa_sub [1, 2, 3, 4, 5, 0] rfl ?_
  exact hrec40 v0 v1 v2 v3 v4 v5_1 k_v0 σ h
def f_X12_twins_73 (rec20 : Nat → Int32 → Int32 → Int32 → Int32 → kf_St → Option (Int32 × kf_St)) (rec40 : Nat → Int32 → Int32 → Int32 → Int32 → Int32 → kf_St → Option (Int32 × kf_St)) (v0 : Nat) (v1 : Int32) (v4 : Int32) (v5 : Int32) (σ : kf_St) : Option (Int32 × kf_St) :=
  kf_lt (((10 * v4) + v5)) fun v2_1 =>
  (f_X12_doorsApart v0 v4 v5 σ).bind fun q_2 =>
  f_X12_twins_91 rec20 rec40 v0 v1 v2_1 q_2.1 v4 v5 q_2.2
set_option maxRecDepth 100000 in
set_option maxHeartbeats 4000000 in
theorem b_X12_twins_73 {X : kf_X} {G : kf_G} {rec20 : Nat → Int32 → Int32 → Int32 → Int32 → kf_St → Option (Int32 × kf_St)} {rec40 : Nat → Int32 → Int32 → Int32 → Int32 → Int32 → kf_St → Option (Int32 × kf_St)} {q : (Int32 × kf_St)} (E : kf_ok X G cX12_twins RX12 6 (some .int) (3)) (hty : kf_wt G) (hrec20 : ∀ (v0 : Nat) (v1 : Int32) (v2 : Int32) (v3 : Int32) (v4 : Int32) (k_v0 : kf_kd G v0 = 13) (σ : kf_St), rec20 v0 v1 v2 v3 v4 σ = some q → kf_WA X G 6 (kf_Q X G (some (.int q.1)) q.2) 20 [(0, .ref (kf_ad G v0)), (1, .int v1), (2, .int v2), (3, .int v3), (4, .int v4)] [] σ) (hrec40 : ∀ (v0 : Nat) (v1 : Int32) (v2 : Int32) (v3 : Int32) (v4 : Int32) (v5 : Int32) (k_v0 : kf_kd G v0 = 13) (σ : kf_St), rec40 v0 v1 v2 v3 v4 v5 σ = some q → kf_WA X G 6 (kf_Q X G (some (.int q.1)) q.2) 40 [(0, .ref (kf_ad G v0)), (1, .int v1), (2, .int v2), (3, .int v3), (4, .int v4), (5, .int v5)] [] σ) (v0 : Nat) (v1 : Int32) (v4 : Int32) (v5 : Int32) (k_v0 : kf_kd G v0 = 13) (σ : kf_St) (h : f_X12_twins_73 rec20 rec40 v0 v1 v4 v5 σ = some q) : kf_WA X G 6 (kf_Q X G (some (.int q.1)) q.2) 73 [(0, .ref (kf_ad G v0)), (1, .int v1), (4, .int v4), (5, .int v5)] [] σ := by
  unfold f_X12_twins_73 at h
  refine wa_bipush 10 bp_10 E d_X12_twins_73 ?_
  refine wa_iload 2 rfl E d_X12_twins_75 ?_
  refine wa_imul E d_X12_twins_77 ?_
  refine wa_iload 3 rfl E d_X12_twins_78 ?_
  refine wa_iadd E d_X12_twins_80 ?_
  obtain ⟨v2_1, ev2_1, h⟩ := kf_lte h
  refine wa_topi ev2_1 ?_
  refine wa_istore_n (lv' := [(2, .int v2_1), (0, .ref (kf_ad G v0)), (1, .int v1), (4, .int v4), (5, .int v5)]) rfl (by decide) rfl E d_X12_twins_81 ?_
  refine wa_aload_n 1 rfl E d_X12_twins_82 ?_
  refine wa_iload 3 rfl E d_X12_twins_83 ?_
  refine wa_iload 4 rfl E d_X12_twins_85 ?_
  obtain ⟨q_2, hq_2, h⟩ := kf_bd h
  refine wa_callV (st2 := [.int q_2.1]) (c_X12_doorsApart hty v0 v4 v5 k_v0 σ hq_2) mv_X12_doorsApart ml_X12_433 k_v0 rfl (Nat.le_of_ble_eq_true rfl) rfl (Nat.le_of_ble_eq_true rfl) E d_X12_twins_87 rfl ?_
  refine wa_istore_n (lv' := [(3, .int q_2.1), (2, .int v2_1), (0, .ref (kf_ad G v0)), (1, .int v1), (4, .int v4), (5, .int v5)]) rfl (by decide) rfl E d_X12_twins_90 ?_
  refine wa_sub [2, 3, 1, 0, 4, 5] rfl ?_
  exact b_X12_twins_91 E hty hrec20 hrec40 v0 v1 v2_1 q_2.1 v4 v5 k_v0 q_2.2 h
def f_X12_twins_40_s (rec20 : Nat → Int32 → Int32 → Int32 → Int32 → kf_St → Option (Int32 × kf_St)) (rec40 : Nat → Int32 → Int32 → Int32 → Int32 → Int32 → kf_St → Option (Int32 × kf_St)) (v0 : Nat) (v1 : Int32) (v2 : Int32) (v3 : Int32) (v4 : Int32) (v5 : Int32) (σ : kf_St) : Option (Int32 × kf_St) :=
  if kf_ix (σ.1 v0 18) (kf_ln (kf_rf v0 23)) = true then
  if (σ.1 (kf_rf v0 23) (Int32.toNatClampNeg (σ.1 v0 18))) ≤ v5 then
    kf_lt (v4 + 1) fun v4_3 =>
    rec20 v0 v1 v2 v3 v4_3 σ
  else
    if v2 < 0 then
      f_X12_twins_73 rec20 rec40 v0 v1 v4 v5 σ
    else
      (f_X12_doorsApart v0 v4 v5 σ).bind fun q_5 =>
      if q_5.1 < v3 then
        f_X12_twins_73 rec20 rec40 v0 v1 v4 v5 q_5.2
      else
        f_X12_twins_91 rec20 rec40 v0 v1 v2 v3 v4 v5 q_5.2
  else none
def f_X12_twins_40 (rec20 : Nat → Int32 → Int32 → Int32 → Int32 → kf_St → Option (Int32 × kf_St)) : Nat → Nat → Int32 → Int32 → Int32 → Int32 → Int32 → kf_St → Option (Int32 × kf_St)
  | 0, _, _, _, _, _, _, _ => none
  | n + 1, v0, v1, v2, v3, v4, v5, σ => f_X12_twins_40_s rec20 (f_X12_twins_40 rec20 n) v0 v1 v2 v3 v4 v5 σ
set_option maxRecDepth 100000 in
set_option maxHeartbeats 4000000 in
theorem b_X12_twins_40_s {X : kf_X} {G : kf_G} {rec20 : Nat → Int32 → Int32 → Int32 → Int32 → kf_St → Option (Int32 × kf_St)} (rec40 : Nat → Int32 → Int32 → Int32 → Int32 → Int32 → kf_St → Option (Int32 × kf_St)) {q : (Int32 × kf_St)} (E : kf_ok X G cX12_twins RX12 6 (some .int) (3)) (hty : kf_wt G) (hrec20 : ∀ (v0 : Nat) (v1 : Int32) (v2 : Int32) (v3 : Int32) (v4 : Int32) (k_v0 : kf_kd G v0 = 13) (σ : kf_St), rec20 v0 v1 v2 v3 v4 σ = some q → kf_WA X G 6 (kf_Q X G (some (.int q.1)) q.2) 20 [(0, .ref (kf_ad G v0)), (1, .int v1), (2, .int v2), (3, .int v3), (4, .int v4)] [] σ) (hrec40 : ∀ (v0 : Nat) (v1 : Int32) (v2 : Int32) (v3 : Int32) (v4 : Int32) (v5 : Int32) (k_v0 : kf_kd G v0 = 13) (σ : kf_St), rec40 v0 v1 v2 v3 v4 v5 σ = some q → kf_WA X G 6 (kf_Q X G (some (.int q.1)) q.2) 40 [(0, .ref (kf_ad G v0)), (1, .int v1), (2, .int v2), (3, .int v3), (4, .int v4), (5, .int v5)] [] σ) (v0 : Nat) (v1 : Int32) (v2 : Int32) (v3 : Int32) (v4 : Int32) (v5 : Int32) (k_v0 : kf_kd G v0 = 13) (σ : kf_St) (h : f_X12_twins_40_s rec20 rec40 v0 v1 v2 v3 v4 v5 σ = some q) : kf_WA X G 6 (kf_Q X G (some (.int q.1)) q.2) 40 [(0, .ref (kf_ad G v0)), (1, .int v1), (2, .int v2), (3, .int v3), (4, .int v4), (5, .int v5)] [] σ := by
  unfold f_X12_twins_40_s at h
  refine wa_iload 5 rfl E d_X12_twins_40 ?_
  refine wa_aload_n 0 rfl E d_X12_twins_42 ?_
  refine wa_getR fl_X12_46 k_v0 rfl E d_X12_twins_43 ?_
  refine wa_aload_n 0 rfl E d_X12_twins_46 ?_
  refine wa_getI fl_X12_233 k_v0 rfl E d_X12_twins_47 ?_
  obtain ⟨g_1, h⟩ := kf_gd h
  refine wa_iald (kf_wtf hty 23 49 k_v0 (by decide) rfl) g_1 E d_X12_twins_50 ?_
  refine wa_icmp_ge E d_X12_twins_51 (fun c_2 => ?_) (fun c_2 => ?_)
  · replace h := kf_ift c_2 h
    obtain ⟨v4_3, ev4_3, h⟩ := kf_lte h
    refine wa_iinc (lv' := [(4, .int v4_3), (0, .ref (kf_ad G v0)), (1, .int v1), (2, .int v2), (3, .int v3), (5, .int v5)]) v4_3 4 rfl (kf_inc ic_1 ev4_3) (by decide) rfl E d_X12_twins_97 ?_
    refine wa_goto E d_X12_twins_100 ?_
    refine wa_sub [1, 2, 3, 4, 0] rfl ?_
    exact hrec20 v0 v1 v2 v3 v4_3 k_v0 σ h
  · replace h := kf_iff c_2 h
    refine wa_iload_n 2 rfl E d_X12_twins_54 ?_
    refine wa_if_lt E d_X12_twins_55 (fun c_4 => ?_) (fun c_4 => ?_)
    · replace h := kf_ift c_4 h
      refine wa_sub [0, 1, 4, 5] rfl ?_
      exact b_X12_twins_73 E hty hrec20 hrec40 v0 v1 v4 v5 k_v0 σ h
    · replace h := kf_iff c_4 h
      refine wa_aload_n 0 rfl E d_X12_twins_58 ?_
      refine wa_iload 4 rfl E d_X12_twins_59 ?_
      refine wa_iload 5 rfl E d_X12_twins_61 ?_
      obtain ⟨q_5, hq_5, h⟩ := kf_bd h
      refine wa_callV (st2 := [.int q_5.1]) (c_X12_doorsApart hty v0 v4 v5 k_v0 σ hq_5) mv_X12_doorsApart ml_X12_433 k_v0 rfl (Nat.le_of_ble_eq_true rfl) rfl (Nat.le_of_ble_eq_true rfl) E d_X12_twins_63 rfl ?_
      refine wa_iload_n 3 rfl E d_X12_twins_66 ?_
      refine wa_icmp_lt E d_X12_twins_67 (fun c_6 => ?_) (fun c_6 => ?_)
      · replace h := kf_ift c_6 h
        refine wa_sub [0, 1, 4, 5] rfl ?_
        exact b_X12_twins_73 E hty hrec20 hrec40 v0 v1 v4 v5 k_v0 q_5.2 h
      · replace h := kf_iff c_6 h
        refine wa_goto E d_X12_twins_70 ?_
        exact b_X12_twins_91 E hty hrec20 hrec40 v0 v1 v2 v3 v4 v5 k_v0 q_5.2 h
theorem b_X12_twins_40 {X : kf_X} {G : kf_G} {rec20 : Nat → Int32 → Int32 → Int32 → Int32 → kf_St → Option (Int32 × kf_St)} {q : (Int32 × kf_St)} (E : kf_ok X G cX12_twins RX12 6 (some .int) (3)) (hty : kf_wt G) (hrec20 : ∀ (v0 : Nat) (v1 : Int32) (v2 : Int32) (v3 : Int32) (v4 : Int32) (k_v0 : kf_kd G v0 = 13) (σ : kf_St), rec20 v0 v1 v2 v3 v4 σ = some q → kf_WA X G 6 (kf_Q X G (some (.int q.1)) q.2) 20 [(0, .ref (kf_ad G v0)), (1, .int v1), (2, .int v2), (3, .int v3), (4, .int v4)] [] σ) : ∀ (N : Nat) (v0 : Nat) (v1 : Int32) (v2 : Int32) (v3 : Int32) (v4 : Int32) (v5 : Int32) (k_v0 : kf_kd G v0 = 13) (σ : kf_St) (_ : f_X12_twins_40 rec20 N v0 v1 v2 v3 v4 v5 σ = some q), kf_WA X G 6 (kf_Q X G (some (.int q.1)) q.2) 40 [(0, .ref (kf_ad G v0)), (1, .int v1), (2, .int v2), (3, .int v3), (4, .int v4), (5, .int v5)] [] σ
  | 0, _, _, _, _, _, _, _, _, h => by cases h
  | N + 1, v0, v1, v2, v3, v4, v5, k_v0, σ, h => b_X12_twins_40_s _ E hty hrec20 (b_X12_twins_40 E hty hrec20 N) v0 v1 v2 v3 v4 v5 k_v0 σ h
def f_X12_twins_20_s (rec20 : Nat → Int32 → Int32 → Int32 → Int32 → kf_St → Option (Int32 × kf_St)) (v0 : Nat) (v1 : Int32) (v2 : Int32) (v3 : Int32) (v4 : Int32) (σ : kf_St) : Option (Int32 × kf_St) :=
  if kf_ix (σ.1 v0 18) (kf_ln (kf_rf v0 23)) = true then
  if (σ.1 (kf_rf v0 23) (Int32.toNatClampNeg (σ.1 v0 18))) ≤ v4 then
    if v1 = 0 then
      some (v2, σ)
    else
      some (v3, σ)
  else
    kf_lt ((v4 + 1)) fun v5_4 =>
    f_X12_twins_40 rec20 kf_F v0 v1 v2 v3 v4 v5_4 σ
  else none
def f_X12_twins_20 : Nat → Nat → Int32 → Int32 → Int32 → Int32 → kf_St → Option (Int32 × kf_St)
  | 0, _, _, _, _, _, _ => none
  | n + 1, v0, v1, v2, v3, v4, σ => f_X12_twins_20_s (f_X12_twins_20 n) v0 v1 v2 v3 v4 σ
set_option maxRecDepth 100000 in
set_option maxHeartbeats 4000000 in
theorem b_X12_twins_20_s {X : kf_X} {G : kf_G} (rec20 : Nat → Int32 → Int32 → Int32 → Int32 → kf_St → Option (Int32 × kf_St)) {q : (Int32 × kf_St)} (E : kf_ok X G cX12_twins RX12 6 (some .int) (3)) (hty : kf_wt G) (hrec20 : ∀ (v0 : Nat) (v1 : Int32) (v2 : Int32) (v3 : Int32) (v4 : Int32) (k_v0 : kf_kd G v0 = 13) (σ : kf_St), rec20 v0 v1 v2 v3 v4 σ = some q → kf_WA X G 6 (kf_Q X G (some (.int q.1)) q.2) 20 [(0, .ref (kf_ad G v0)), (1, .int v1), (2, .int v2), (3, .int v3), (4, .int v4)] [] σ) (v0 : Nat) (v1 : Int32) (v2 : Int32) (v3 : Int32) (v4 : Int32) (k_v0 : kf_kd G v0 = 13) (σ : kf_St) (h : f_X12_twins_20_s rec20 v0 v1 v2 v3 v4 σ = some q) : kf_WA X G 6 (kf_Q X G (some (.int q.1)) q.2) 20 [(0, .ref (kf_ad G v0)), (1, .int v1), (2, .int v2), (3, .int v3), (4, .int v4)] [] σ := by
  unfold f_X12_twins_20_s at h
  refine wa_iload 4 rfl E d_X12_twins_20 ?_
  refine wa_aload_n 0 rfl E d_X12_twins_22 ?_
  refine wa_getR fl_X12_46 k_v0 rfl E d_X12_twins_23 ?_
  refine wa_aload_n 0 rfl E d_X12_twins_26 ?_
  refine wa_getI fl_X12_233 k_v0 rfl E d_X12_twins_27 ?_
  obtain ⟨g_1, h⟩ := kf_gd h
  refine wa_iald (kf_wtf hty 23 49 k_v0 (by decide) rfl) g_1 E d_X12_twins_30 ?_
  refine wa_icmp_ge E d_X12_twins_31 (fun c_2 => ?_) (fun c_2 => ?_)
  · replace h := kf_ift c_2 h
    refine wa_iload_n 1 rfl E d_X12_twins_103 ?_
    refine wa_if_ne E d_X12_twins_104 (fun c_3 => ?_) (fun c_3 => ?_)
    · replace h := kf_iff c_3 h
      refine wa_iload_n 3 rfl E d_X12_twins_111 ?_
      cases h
      exact wa_iret E d_X12_twins_112
    · replace h := kf_ift c_3 h
      refine wa_iload_n 2 rfl E d_X12_twins_107 ?_
      refine wa_goto E d_X12_twins_108 ?_
      cases h
      exact wa_iret E d_X12_twins_112
  · replace h := kf_iff c_2 h
    refine wa_iload 4 rfl E d_X12_twins_34 ?_
    refine wa_iconst 1 ic_1 E d_X12_twins_36 ?_
    refine wa_iadd E d_X12_twins_37 ?_
    obtain ⟨v5_4, ev5_4, h⟩ := kf_lte h
    refine wa_topi ev5_4 ?_
    refine wa_istore (lv' := [(5, .int v5_4), (0, .ref (kf_ad G v0)), (1, .int v1), (2, .int v2), (3, .int v3), (4, .int v4)]) (by decide) rfl E d_X12_twins_38 ?_
    refine wa_sub [1, 2, 3, 4, 5, 0] rfl ?_
    exact b_X12_twins_40 E hty hrec20 kf_F v0 v1 v2 v3 v4 v5_4 k_v0 σ h
theorem b_X12_twins_20 {X : kf_X} {G : kf_G} {q : (Int32 × kf_St)} (E : kf_ok X G cX12_twins RX12 6 (some .int) (3)) (hty : kf_wt G) : ∀ (N : Nat) (v0 : Nat) (v1 : Int32) (v2 : Int32) (v3 : Int32) (v4 : Int32) (k_v0 : kf_kd G v0 = 13) (σ : kf_St) (_ : f_X12_twins_20 N v0 v1 v2 v3 v4 σ = some q), kf_WA X G 6 (kf_Q X G (some (.int q.1)) q.2) 20 [(0, .ref (kf_ad G v0)), (1, .int v1), (2, .int v2), (3, .int v3), (4, .int v4)] [] σ
  | 0, _, _, _, _, _, _, _, h => by cases h
  | N + 1, v0, v1, v2, v3, v4, k_v0, σ, h => b_X12_twins_20_s _ E hty (b_X12_twins_20 E hty N) v0 v1 v2 v3 v4 k_v0 σ h
def f_X12_twins (v0 : Nat) (v1 : Int32) (σ : kf_St) : Option (Int32 × kf_St) :=
  (f_X12_in v1 0 1 σ).bind fun q_1 =>
  if q_1.1 = 0 then
    some ((-1), q_1.2)
  else
    f_X12_twins_20 kf_F v0 v1 (-2) (-2) 0 q_1.2
set_option maxRecDepth 100000 in
set_option maxHeartbeats 4000000 in
theorem c_X12_twins {G : kf_G} (hty : kf_wt G) (v0 : Nat) (v1 : Int32) (k_v0 : kf_kd G v0 = 13) (σ : kf_St) {q : (Int32 × kf_St)} (h : f_X12_twins v0 v1 σ = some q) : kf_Ct (3) yX12_twins cX12_twins 6 (some .int) G [.ref (kf_ad G v0), .int v1] σ (some (.int q.1)) q.2 := by
  refine kf_Ct.of hty.1 (lv := [(0, .ref (kf_ad G v0)), (1, .int v1)]) (by decide +kernel) rfl (Nat.le_of_ble_eq_true rfl) (fun X E => ?_)
  unfold f_X12_twins at h
  refine wa_iload_n 1 rfl E d_X12_twins_0 ?_
  refine wa_iconst 0 ic_0 E d_X12_twins_1 ?_
  refine wa_iconst 1 ic_1 E d_X12_twins_2 ?_
  obtain ⟨q_1, hq_1, h⟩ := kf_bd h
  refine wa_callS (st2 := [.int q_1.1]) (c_X12_in hty v1 0 1 σ hq_1) mt_X12_in ml_X12_313 rfl (Nat.le_of_ble_eq_true rfl) rfl (Nat.le_of_ble_eq_true rfl) E d_X12_twins_3 rfl ?_
  refine wa_if_ne E d_X12_twins_6 (fun c_2 => ?_) (fun c_2 => ?_)
  · replace h := kf_iff c_2 h
    refine wa_bipush (-2) bp_m2 E d_X12_twins_11 ?_
    refine wa_istore_n (lv' := [(2, .int (-2)), (0, .ref (kf_ad G v0)), (1, .int v1)]) rfl (by decide) rfl E d_X12_twins_13 ?_
    refine wa_bipush (-2) bp_m2 E d_X12_twins_14 ?_
    refine wa_istore_n (lv' := [(3, .int (-2)), (2, .int (-2)), (0, .ref (kf_ad G v0)), (1, .int v1)]) rfl (by decide) rfl E d_X12_twins_16 ?_
    refine wa_iconst 0 ic_0 E d_X12_twins_17 ?_
    refine wa_istore (lv' := [(4, .int 0), (3, .int (-2)), (2, .int (-2)), (0, .ref (kf_ad G v0)), (1, .int v1)]) (by decide) rfl E d_X12_twins_18 ?_
    refine wa_sub [3, 4, 2, 1, 0] rfl ?_
    exact b_X12_twins_20 E hty kf_F v0 v1 (-2) (-2) 0 k_v0 q_1.2 h
  · replace h := kf_ift c_2 h
    refine wa_iconst (-1) ic_m1 E d_X12_twins_9 ?_
    cases h
    exact wa_iret E d_X12_twins_10
/-! X12_callersApart -/
theorem d_X12_callersApart_0 : kf_dq cX12_callersApart 0 1 1 (.iconst 0) := ⟨by decide +kernel, rfl⟩
theorem d_X12_callersApart_1 : kf_dq cX12_callersApart 1 2 1 (.istore_n 3) := ⟨by decide +kernel, rfl⟩
theorem d_X12_callersApart_2 : kf_dq cX12_callersApart 2 3 1 (.iconst 0) := ⟨by decide +kernel, rfl⟩
theorem d_X12_callersApart_3 : kf_dq cX12_callersApart 3 5 2 (.istore 4) := ⟨by decide +kernel, rfl⟩
theorem d_X12_callersApart_5 : kf_dq cX12_callersApart 5 7 2 (.iload 4) := ⟨by decide +kernel, rfl⟩
theorem d_X12_callersApart_7 : kf_dq cX12_callersApart 7 8 1 (.iconst 4) := ⟨by decide +kernel, rfl⟩
theorem d_X12_callersApart_8 : kf_dj cX12_callersApart 8 11 37 (.if_icmp .ge) := ⟨29, by decide +kernel, rfl, by decide⟩
theorem d_X12_callersApart_11 : kf_dq cX12_callersApart 11 12 1 (.iload_n 3) := ⟨by decide +kernel, rfl⟩
theorem d_X12_callersApart_12 : kf_dq cX12_callersApart 12 13 1 (.aload_n 0) := ⟨by decide +kernel, rfl⟩
theorem d_X12_callersApart_13 : kf_dq cX12_callersApart 13 14 1 (.iload_n 1) := ⟨by decide +kernel, rfl⟩
theorem d_X12_callersApart_14 : kf_dq cX12_callersApart 14 16 2 (.iload 4) := ⟨by decide +kernel, rfl⟩
theorem d_X12_callersApart_16 : kf_dq cX12_callersApart 16 19 3 (.invokevirtual 333) := ⟨by decide +kernel, rfl⟩
theorem d_X12_callersApart_19 : kf_dq cX12_callersApart 19 20 1 (.aload_n 0) := ⟨by decide +kernel, rfl⟩
theorem d_X12_callersApart_20 : kf_dq cX12_callersApart 20 21 1 (.iload_n 2) := ⟨by decide +kernel, rfl⟩
theorem d_X12_callersApart_21 : kf_dq cX12_callersApart 21 23 2 (.iload 4) := ⟨by decide +kernel, rfl⟩
theorem d_X12_callersApart_23 : kf_dq cX12_callersApart 23 26 3 (.invokevirtual 333) := ⟨by decide +kernel, rfl⟩
theorem d_X12_callersApart_26 : kf_dq cX12_callersApart 26 29 3 (.invokestatic 336) := ⟨by decide +kernel, rfl⟩
theorem d_X12_callersApart_29 : kf_dq cX12_callersApart 29 30 1 (.iadd) := ⟨by decide +kernel, rfl⟩
theorem d_X12_callersApart_30 : kf_dq cX12_callersApart 30 31 1 (.istore_n 3) := ⟨by decide +kernel, rfl⟩
theorem d_X12_callersApart_31 : kf_dq cX12_callersApart 31 34 3 (.iinc 4 1) := ⟨by decide +kernel, rfl⟩
theorem d_X12_callersApart_34 : kf_dj cX12_callersApart 34 37 5 .goto := ⟨(-29), by decide +kernel, rfl, by decide⟩
theorem d_X12_callersApart_37 : kf_dq cX12_callersApart 37 38 1 (.iload_n 3) := ⟨by decide +kernel, rfl⟩
theorem d_X12_callersApart_38 : kf_dq cX12_callersApart 38 39 1 (.ireturn) := ⟨by decide +kernel, rfl⟩
def f_X12_callersApart_5_s (rec5 : Nat → Int32 → Int32 → Int32 → Int32 → kf_St → Option (Int32 × kf_St)) (v0 : Nat) (v1 : Int32) (v2 : Int32) (v3 : Int32) (v4 : Int32) (σ : kf_St) : Option (Int32 × kf_St) :=
  if 4 ≤ v4 then
    some (v3, σ)
  else
    (f_X12_facePart v0 v1 v4 σ).bind fun q_2 =>
    (f_X12_facePart v0 v2 v4 q_2.2).bind fun q_3 =>
    (f_X12_off q_2.1 q_3.1 q_3.2).bind fun q_4 =>
    kf_lt ((v3 + q_4.1)) fun v3_5 =>
    kf_lt (v4 + 1) fun v4_6 =>
    rec5 v0 v1 v2 v3_5 v4_6 q_4.2
def f_X12_callersApart_5 : Nat → Nat → Int32 → Int32 → Int32 → Int32 → kf_St → Option (Int32 × kf_St)
  | 0, _, _, _, _, _, _ => none
  | n + 1, v0, v1, v2, v3, v4, σ => f_X12_callersApart_5_s (f_X12_callersApart_5 n) v0 v1 v2 v3 v4 σ
set_option maxRecDepth 100000 in
set_option maxHeartbeats 4000000 in
theorem b_X12_callersApart_5_s {X : kf_X} {G : kf_G} (rec5 : Nat → Int32 → Int32 → Int32 → Int32 → kf_St → Option (Int32 × kf_St)) {q : (Int32 × kf_St)} (E : kf_ok X G cX12_callersApart RX12 5 (some .int) (2)) (hty : kf_wt G) (hrec5 : ∀ (v0 : Nat) (v1 : Int32) (v2 : Int32) (v3 : Int32) (v4 : Int32) (k_v0 : kf_kd G v0 = 13) (σ : kf_St), rec5 v0 v1 v2 v3 v4 σ = some q → kf_WA X G 5 (kf_Q X G (some (.int q.1)) q.2) 5 [(0, .ref (kf_ad G v0)), (1, .int v1), (2, .int v2), (3, .int v3), (4, .int v4)] [] σ) (v0 : Nat) (v1 : Int32) (v2 : Int32) (v3 : Int32) (v4 : Int32) (k_v0 : kf_kd G v0 = 13) (σ : kf_St) (h : f_X12_callersApart_5_s rec5 v0 v1 v2 v3 v4 σ = some q) : kf_WA X G 5 (kf_Q X G (some (.int q.1)) q.2) 5 [(0, .ref (kf_ad G v0)), (1, .int v1), (2, .int v2), (3, .int v3), (4, .int v4)] [] σ := by
  unfold f_X12_callersApart_5_s at h
  refine wa_iload 4 rfl E d_X12_callersApart_5 ?_
  refine wa_iconst 4 ic_4 E d_X12_callersApart_7 ?_
  refine wa_icmp_ge E d_X12_callersApart_8 (fun c_1 => ?_) (fun c_1 => ?_)
  · replace h := kf_ift c_1 h
    refine wa_iload_n 3 rfl E d_X12_callersApart_37 ?_
    cases h
    exact wa_iret E d_X12_callersApart_38
  · replace h := kf_iff c_1 h
    refine wa_iload_n 3 rfl E d_X12_callersApart_11 ?_
    refine wa_aload_n 0 rfl E d_X12_callersApart_12 ?_
    refine wa_iload_n 1 rfl E d_X12_callersApart_13 ?_
    refine wa_iload 4 rfl E d_X12_callersApart_14 ?_
    obtain ⟨q_2, hq_2, h⟩ := kf_bd h
    refine wa_callV (st2 := [.int q_2.1, .int v3]) (c_X12_facePart hty v0 v1 v4 k_v0 σ hq_2) mv_X12_facePart ml_X12_333 k_v0 rfl (Nat.le_of_ble_eq_true rfl) rfl (Nat.le_of_ble_eq_true rfl) E d_X12_callersApart_16 rfl ?_
    refine wa_aload_n 0 rfl E d_X12_callersApart_19 ?_
    refine wa_iload_n 2 rfl E d_X12_callersApart_20 ?_
    refine wa_iload 4 rfl E d_X12_callersApart_21 ?_
    obtain ⟨q_3, hq_3, h⟩ := kf_bd h
    refine wa_callV (st2 := [.int q_3.1, .int q_2.1, .int v3]) (c_X12_facePart hty v0 v2 v4 k_v0 q_2.2 hq_3) mv_X12_facePart ml_X12_333 k_v0 rfl (Nat.le_of_ble_eq_true rfl) rfl (Nat.le_of_ble_eq_true rfl) E d_X12_callersApart_23 rfl ?_
    obtain ⟨q_4, hq_4, h⟩ := kf_bd h
    refine wa_callS (st2 := [.int q_4.1, .int v3]) (c_X12_off hty q_2.1 q_3.1 q_3.2 hq_4) mt_X12_off ml_X12_336 rfl (Nat.le_of_ble_eq_true rfl) rfl (Nat.le_of_ble_eq_true rfl) E d_X12_callersApart_26 rfl ?_
    refine wa_iadd E d_X12_callersApart_29 ?_
    obtain ⟨v3_5, ev3_5, h⟩ := kf_lte h
    refine wa_topi ev3_5 ?_
    refine wa_istore_n (lv' := [(3, .int v3_5), (0, .ref (kf_ad G v0)), (1, .int v1), (2, .int v2), (4, .int v4)]) rfl (by decide) rfl E d_X12_callersApart_30 ?_
    obtain ⟨v4_6, ev4_6, h⟩ := kf_lte h
    refine wa_iinc (lv' := [(4, .int v4_6), (3, .int v3_5), (0, .ref (kf_ad G v0)), (1, .int v1), (2, .int v2)]) v4_6 4 rfl (kf_inc ic_1 ev4_6) (by decide) rfl E d_X12_callersApart_31 ?_
    refine wa_goto E d_X12_callersApart_34 ?_
    refine wa_sub [2, 3, 4, 1, 0] rfl ?_
    exact hrec5 v0 v1 v2 v3_5 v4_6 k_v0 q_4.2 h
theorem b_X12_callersApart_5 {X : kf_X} {G : kf_G} {q : (Int32 × kf_St)} (E : kf_ok X G cX12_callersApart RX12 5 (some .int) (2)) (hty : kf_wt G) : ∀ (N : Nat) (v0 : Nat) (v1 : Int32) (v2 : Int32) (v3 : Int32) (v4 : Int32) (k_v0 : kf_kd G v0 = 13) (σ : kf_St) (_ : f_X12_callersApart_5 N v0 v1 v2 v3 v4 σ = some q), kf_WA X G 5 (kf_Q X G (some (.int q.1)) q.2) 5 [(0, .ref (kf_ad G v0)), (1, .int v1), (2, .int v2), (3, .int v3), (4, .int v4)] [] σ
  | 0, _, _, _, _, _, _, _, h => by cases h
  | N + 1, v0, v1, v2, v3, v4, k_v0, σ, h => b_X12_callersApart_5_s _ E hty (b_X12_callersApart_5 E hty N) v0 v1 v2 v3 v4 k_v0 σ h
def f_X12_callersApart (v0 : Nat) (v1 : Int32) (v2 : Int32) (σ : kf_St) : Option (Int32 × kf_St) :=
  f_X12_callersApart_5 kf_F v0 v1 v2 0 0 σ
set_option maxRecDepth 100000 in
set_option maxHeartbeats 4000000 in
theorem c_X12_callersApart {G : kf_G} (hty : kf_wt G) (v0 : Nat) (v1 : Int32) (v2 : Int32) (k_v0 : kf_kd G v0 = 13) (σ : kf_St) {q : (Int32 × kf_St)} (h : f_X12_callersApart v0 v1 v2 σ = some q) : kf_Ct (2) yX12_callersApart cX12_callersApart 5 (some .int) G [.ref (kf_ad G v0), .int v1, .int v2] σ (some (.int q.1)) q.2 := by
  refine kf_Ct.of hty.1 (lv := [(0, .ref (kf_ad G v0)), (1, .int v1), (2, .int v2)]) (by decide +kernel) rfl (Nat.le_of_ble_eq_true rfl) (fun X E => ?_)
  unfold f_X12_callersApart at h
  refine wa_iconst 0 ic_0 E d_X12_callersApart_0 ?_
  refine wa_istore_n (lv' := [(3, .int 0), (0, .ref (kf_ad G v0)), (1, .int v1), (2, .int v2)]) rfl (by decide) rfl E d_X12_callersApart_1 ?_
  refine wa_iconst 0 ic_0 E d_X12_callersApart_2 ?_
  refine wa_istore (lv' := [(4, .int 0), (3, .int 0), (0, .ref (kf_ad G v0)), (1, .int v1), (2, .int v2)]) (by decide) rfl E d_X12_callersApart_3 ?_
  refine wa_sub [2, 3, 4, 1, 0] rfl ?_
  exact b_X12_callersApart_5 E hty kf_F v0 v1 v2 0 0 k_v0 σ h
/-! X12_confused -/
theorem d_X12_confused_0 : kf_dq cX12_confused 0 1 1 (.iload_n 1) := ⟨by decide +kernel, rfl⟩
theorem d_X12_confused_1 : kf_dq cX12_confused 1 2 1 (.iconst 0) := ⟨by decide +kernel, rfl⟩
theorem d_X12_confused_2 : kf_dq cX12_confused 2 3 1 (.iconst 1) := ⟨by decide +kernel, rfl⟩
theorem d_X12_confused_3 : kf_dq cX12_confused 3 6 3 (.invokestatic 313) := ⟨by decide +kernel, rfl⟩
theorem d_X12_confused_6 : kf_dj cX12_confused 6 9 11 (.ifCond .ne) := ⟨5, by decide +kernel, rfl, by decide⟩
theorem d_X12_confused_9 : kf_dq cX12_confused 9 10 1 (.iconst (-1)) := ⟨by decide +kernel, rfl⟩
theorem d_X12_confused_10 : kf_dq cX12_confused 10 11 1 (.ireturn) := ⟨by decide +kernel, rfl⟩
theorem d_X12_confused_11 : kf_dq cX12_confused 11 13 2 (.bipush (-2)) := ⟨by decide +kernel, rfl⟩
theorem d_X12_confused_13 : kf_dq cX12_confused 13 14 1 (.istore_n 2) := ⟨by decide +kernel, rfl⟩
theorem d_X12_confused_14 : kf_dq cX12_confused 14 16 2 (.bipush (-2)) := ⟨by decide +kernel, rfl⟩
theorem d_X12_confused_16 : kf_dq cX12_confused 16 17 1 (.istore_n 3) := ⟨by decide +kernel, rfl⟩
theorem d_X12_confused_17 : kf_dq cX12_confused 17 18 1 (.iconst 0) := ⟨by decide +kernel, rfl⟩
theorem d_X12_confused_18 : kf_dq cX12_confused 18 20 2 (.istore 4) := ⟨by decide +kernel, rfl⟩
theorem d_X12_confused_20 : kf_dq cX12_confused 20 22 2 (.iload 4) := ⟨by decide +kernel, rfl⟩
theorem d_X12_confused_22 : kf_dq cX12_confused 22 23 1 (.aload_n 0) := ⟨by decide +kernel, rfl⟩
theorem d_X12_confused_23 : kf_dq cX12_confused 23 26 3 (.getfield 52) := ⟨by decide +kernel, rfl⟩
theorem d_X12_confused_26 : kf_dq cX12_confused 26 27 1 (.aload_n 0) := ⟨by decide +kernel, rfl⟩
theorem d_X12_confused_27 : kf_dq cX12_confused 27 30 3 (.getfield 233) := ⟨by decide +kernel, rfl⟩
theorem d_X12_confused_30 : kf_dq cX12_confused 30 31 1 (.iaload) := ⟨by decide +kernel, rfl⟩
theorem d_X12_confused_31 : kf_dj cX12_confused 31 34 103 (.if_icmp .ge) := ⟨72, by decide +kernel, rfl, by decide⟩
theorem d_X12_confused_34 : kf_dq cX12_confused 34 36 2 (.iload 4) := ⟨by decide +kernel, rfl⟩
theorem d_X12_confused_36 : kf_dq cX12_confused 36 37 1 (.iconst 1) := ⟨by decide +kernel, rfl⟩
theorem d_X12_confused_37 : kf_dq cX12_confused 37 38 1 (.iadd) := ⟨by decide +kernel, rfl⟩
theorem d_X12_confused_38 : kf_dq cX12_confused 38 40 2 (.istore 5) := ⟨by decide +kernel, rfl⟩
theorem d_X12_confused_40 : kf_dq cX12_confused 40 42 2 (.iload 5) := ⟨by decide +kernel, rfl⟩
theorem d_X12_confused_42 : kf_dq cX12_confused 42 43 1 (.aload_n 0) := ⟨by decide +kernel, rfl⟩
theorem d_X12_confused_43 : kf_dq cX12_confused 43 46 3 (.getfield 52) := ⟨by decide +kernel, rfl⟩
theorem d_X12_confused_46 : kf_dq cX12_confused 46 47 1 (.aload_n 0) := ⟨by decide +kernel, rfl⟩
theorem d_X12_confused_47 : kf_dq cX12_confused 47 50 3 (.getfield 233) := ⟨by decide +kernel, rfl⟩
theorem d_X12_confused_50 : kf_dq cX12_confused 50 51 1 (.iaload) := ⟨by decide +kernel, rfl⟩
theorem d_X12_confused_51 : kf_dj cX12_confused 51 54 97 (.if_icmp .ge) := ⟨46, by decide +kernel, rfl, by decide⟩
theorem d_X12_confused_54 : kf_dq cX12_confused 54 55 1 (.iload_n 2) := ⟨by decide +kernel, rfl⟩
theorem d_X12_confused_55 : kf_dj cX12_confused 55 58 73 (.ifCond .lt) := ⟨18, by decide +kernel, rfl, by decide⟩
theorem d_X12_confused_58 : kf_dq cX12_confused 58 59 1 (.aload_n 0) := ⟨by decide +kernel, rfl⟩
theorem d_X12_confused_59 : kf_dq cX12_confused 59 61 2 (.iload 4) := ⟨by decide +kernel, rfl⟩
theorem d_X12_confused_61 : kf_dq cX12_confused 61 63 2 (.iload 5) := ⟨by decide +kernel, rfl⟩
theorem d_X12_confused_63 : kf_dq cX12_confused 63 66 3 (.invokevirtual 436) := ⟨by decide +kernel, rfl⟩
theorem d_X12_confused_66 : kf_dq cX12_confused 66 67 1 (.iload_n 3) := ⟨by decide +kernel, rfl⟩
theorem d_X12_confused_67 : kf_dj cX12_confused 67 70 73 (.if_icmp .lt) := ⟨6, by decide +kernel, rfl, by decide⟩
theorem d_X12_confused_70 : kf_dj cX12_confused 70 73 91 .goto := ⟨21, by decide +kernel, rfl, by decide⟩
theorem d_X12_confused_73 : kf_dq cX12_confused 73 75 2 (.bipush 10) := ⟨by decide +kernel, rfl⟩
theorem d_X12_confused_75 : kf_dq cX12_confused 75 77 2 (.iload 4) := ⟨by decide +kernel, rfl⟩
theorem d_X12_confused_77 : kf_dq cX12_confused 77 78 1 (.imul) := ⟨by decide +kernel, rfl⟩
theorem d_X12_confused_78 : kf_dq cX12_confused 78 80 2 (.iload 5) := ⟨by decide +kernel, rfl⟩
theorem d_X12_confused_80 : kf_dq cX12_confused 80 81 1 (.iadd) := ⟨by decide +kernel, rfl⟩
theorem d_X12_confused_81 : kf_dq cX12_confused 81 82 1 (.istore_n 2) := ⟨by decide +kernel, rfl⟩
theorem d_X12_confused_82 : kf_dq cX12_confused 82 83 1 (.aload_n 0) := ⟨by decide +kernel, rfl⟩
theorem d_X12_confused_83 : kf_dq cX12_confused 83 85 2 (.iload 4) := ⟨by decide +kernel, rfl⟩
theorem d_X12_confused_85 : kf_dq cX12_confused 85 87 2 (.iload 5) := ⟨by decide +kernel, rfl⟩
theorem d_X12_confused_87 : kf_dq cX12_confused 87 90 3 (.invokevirtual 436) := ⟨by decide +kernel, rfl⟩
theorem d_X12_confused_90 : kf_dq cX12_confused 90 91 1 (.istore_n 3) := ⟨by decide +kernel, rfl⟩
theorem d_X12_confused_91 : kf_dq cX12_confused 91 94 3 (.iinc 5 1) := ⟨by decide +kernel, rfl⟩
theorem d_X12_confused_94 : kf_dj cX12_confused 94 97 40 .goto := ⟨(-54), by decide +kernel, rfl, by decide⟩
theorem d_X12_confused_97 : kf_dq cX12_confused 97 100 3 (.iinc 4 1) := ⟨by decide +kernel, rfl⟩
theorem d_X12_confused_100 : kf_dj cX12_confused 100 103 20 .goto := ⟨(-80), by decide +kernel, rfl, by decide⟩
theorem d_X12_confused_103 : kf_dq cX12_confused 103 104 1 (.iload_n 1) := ⟨by decide +kernel, rfl⟩
theorem d_X12_confused_104 : kf_dj cX12_confused 104 107 111 (.ifCond .ne) := ⟨7, by decide +kernel, rfl, by decide⟩
theorem d_X12_confused_107 : kf_dq cX12_confused 107 108 1 (.iload_n 2) := ⟨by decide +kernel, rfl⟩
theorem d_X12_confused_108 : kf_dj cX12_confused 108 111 112 .goto := ⟨4, by decide +kernel, rfl, by decide⟩
theorem d_X12_confused_111 : kf_dq cX12_confused 111 112 1 (.iload_n 3) := ⟨by decide +kernel, rfl⟩
theorem d_X12_confused_112 : kf_dq cX12_confused 112 113 1 (.ireturn) := ⟨by decide +kernel, rfl⟩
def f_X12_confused_91 (rec20 : Nat → Int32 → Int32 → Int32 → Int32 → kf_St → Option (Int32 × kf_St)) (rec40 : Nat → Int32 → Int32 → Int32 → Int32 → Int32 → kf_St → Option (Int32 × kf_St)) (v0 : Nat) (v1 : Int32) (v2 : Int32) (v3 : Int32) (v4 : Int32) (v5 : Int32) (σ : kf_St) : Option (Int32 × kf_St) :=
  kf_lt (v5 + 1) fun v5_1 =>
  rec40 v0 v1 v2 v3 v4 v5_1 σ
set_option maxRecDepth 100000 in
set_option maxHeartbeats 4000000 in
theorem b_X12_confused_91 {X : kf_X} {G : kf_G} {rec20 : Nat → Int32 → Int32 → Int32 → Int32 → kf_St → Option (Int32 × kf_St)} {rec40 : Nat → Int32 → Int32 → Int32 → Int32 → Int32 → kf_St → Option (Int32 × kf_St)} {q : (Int32 × kf_St)} (E : kf_ok X G cX12_confused RX12 6 (some .int) (3)) (hty : kf_wt G) (hrec20 : ∀ (v0 : Nat) (v1 : Int32) (v2 : Int32) (v3 : Int32) (v4 : Int32) (k_v0 : kf_kd G v0 = 13) (σ : kf_St), rec20 v0 v1 v2 v3 v4 σ = some q → kf_WA X G 6 (kf_Q X G (some (.int q.1)) q.2) 20 [(0, .ref (kf_ad G v0)), (1, .int v1), (2, .int v2), (3, .int v3), (4, .int v4)] [] σ) (hrec40 : ∀ (v0 : Nat) (v1 : Int32) (v2 : Int32) (v3 : Int32) (v4 : Int32) (v5 : Int32) (k_v0 : kf_kd G v0 = 13) (σ : kf_St), rec40 v0 v1 v2 v3 v4 v5 σ = some q → kf_WA X G 6 (kf_Q X G (some (.int q.1)) q.2) 40 [(0, .ref (kf_ad G v0)), (1, .int v1), (2, .int v2), (3, .int v3), (4, .int v4), (5, .int v5)] [] σ) (v0 : Nat) (v1 : Int32) (v2 : Int32) (v3 : Int32) (v4 : Int32) (v5 : Int32) (k_v0 : kf_kd G v0 = 13) (σ : kf_St) (h : f_X12_confused_91 rec20 rec40 v0 v1 v2 v3 v4 v5 σ = some q) : kf_WA X G 6 (kf_Q X G (some (.int q.1)) q.2) 91 [(0, .ref (kf_ad G v0)), (1, .int v1), (2, .int v2), (3, .int v3), (4, .int v4), (5, .int v5)] [] σ := by
  unfold f_X12_confused_91 at h
  obtain ⟨v5_1, ev5_1, h⟩ := kf_lte h
  refine wa_iinc (lv' := [(5, .int v5_1), (0, .ref (kf_ad G v0)), (1, .int v1), (2, .int v2), (3, .int v3), (4, .int v4)]) v5_1 5 rfl (kf_inc ic_1 ev5_1) (by decide) rfl E d_X12_confused_91 ?_
  refine wa_goto E d_X12_confused_94 ?_
  refine wa_sub [1, 2, 3, 4, 5, 0] rfl ?_
  exact hrec40 v0 v1 v2 v3 v4 v5_1 k_v0 σ h
def f_X12_confused_73 (rec20 : Nat → Int32 → Int32 → Int32 → Int32 → kf_St → Option (Int32 × kf_St)) (rec40 : Nat → Int32 → Int32 → Int32 → Int32 → Int32 → kf_St → Option (Int32 × kf_St)) (v0 : Nat) (v1 : Int32) (v4 : Int32) (v5 : Int32) (σ : kf_St) : Option (Int32 × kf_St) :=
  kf_lt (((10 * v4) + v5)) fun v2_1 =>
  (f_X12_callersApart v0 v4 v5 σ).bind fun q_2 =>
  f_X12_confused_91 rec20 rec40 v0 v1 v2_1 q_2.1 v4 v5 q_2.2
set_option maxRecDepth 100000 in
set_option maxHeartbeats 4000000 in
theorem b_X12_confused_73 {X : kf_X} {G : kf_G} {rec20 : Nat → Int32 → Int32 → Int32 → Int32 → kf_St → Option (Int32 × kf_St)} {rec40 : Nat → Int32 → Int32 → Int32 → Int32 → Int32 → kf_St → Option (Int32 × kf_St)} {q : (Int32 × kf_St)} (E : kf_ok X G cX12_confused RX12 6 (some .int) (3)) (hty : kf_wt G) (hrec20 : ∀ (v0 : Nat) (v1 : Int32) (v2 : Int32) (v3 : Int32) (v4 : Int32) (k_v0 : kf_kd G v0 = 13) (σ : kf_St), rec20 v0 v1 v2 v3 v4 σ = some q → kf_WA X G 6 (kf_Q X G (some (.int q.1)) q.2) 20 [(0, .ref (kf_ad G v0)), (1, .int v1), (2, .int v2), (3, .int v3), (4, .int v4)] [] σ) (hrec40 : ∀ (v0 : Nat) (v1 : Int32) (v2 : Int32) (v3 : Int32) (v4 : Int32) (v5 : Int32) (k_v0 : kf_kd G v0 = 13) (σ : kf_St), rec40 v0 v1 v2 v3 v4 v5 σ = some q → kf_WA X G 6 (kf_Q X G (some (.int q.1)) q.2) 40 [(0, .ref (kf_ad G v0)), (1, .int v1), (2, .int v2), (3, .int v3), (4, .int v4), (5, .int v5)] [] σ) (v0 : Nat) (v1 : Int32) (v4 : Int32) (v5 : Int32) (k_v0 : kf_kd G v0 = 13) (σ : kf_St) (h : f_X12_confused_73 rec20 rec40 v0 v1 v4 v5 σ = some q) : kf_WA X G 6 (kf_Q X G (some (.int q.1)) q.2) 73 [(0, .ref (kf_ad G v0)), (1, .int v1), (4, .int v4), (5, .int v5)] [] σ := by
  unfold f_X12_confused_73 at h
  refine wa_bipush 10 bp_10 E d_X12_confused_73 ?_
  refine wa_iload 2 rfl E d_X12_confused_75 ?_
  refine wa_imul E d_X12_confused_77 ?_
  refine wa_iload 3 rfl E d_X12_confused_78 ?_
  refine wa_iadd E d_X12_confused_80 ?_
  obtain ⟨v2_1, ev2_1, h⟩ := kf_lte h
  refine wa_topi ev2_1 ?_
  refine wa_istore_n (lv' := [(2, .int v2_1), (0, .ref (kf_ad G v0)), (1, .int v1), (4, .int v4), (5, .int v5)]) rfl (by decide) rfl E d_X12_confused_81 ?_
  refine wa_aload_n 1 rfl E d_X12_confused_82 ?_
  refine wa_iload 3 rfl E d_X12_confused_83 ?_
  refine wa_iload 4 rfl E d_X12_confused_85 ?_
  obtain ⟨q_2, hq_2, h⟩ := kf_bd h
  refine wa_callV (st2 := [.int q_2.1]) (c_X12_callersApart hty v0 v4 v5 k_v0 σ hq_2) mv_X12_callersApart ml_X12_436 k_v0 rfl (Nat.le_of_ble_eq_true rfl) rfl (Nat.le_of_ble_eq_true rfl) E d_X12_confused_87 rfl ?_
  refine wa_istore_n (lv' := [(3, .int q_2.1), (2, .int v2_1), (0, .ref (kf_ad G v0)), (1, .int v1), (4, .int v4), (5, .int v5)]) rfl (by decide) rfl E d_X12_confused_90 ?_
  refine wa_sub [2, 3, 1, 0, 4, 5] rfl ?_
  exact b_X12_confused_91 E hty hrec20 hrec40 v0 v1 v2_1 q_2.1 v4 v5 k_v0 q_2.2 h
def f_X12_confused_40_s (rec20 : Nat → Int32 → Int32 → Int32 → Int32 → kf_St → Option (Int32 × kf_St)) (rec40 : Nat → Int32 → Int32 → Int32 → Int32 → Int32 → kf_St → Option (Int32 × kf_St)) (v0 : Nat) (v1 : Int32) (v2 : Int32) (v3 : Int32) (v4 : Int32) (v5 : Int32) (σ : kf_St) : Option (Int32 × kf_St) :=
  if kf_ix (σ.1 v0 18) (kf_ln (kf_rf v0 25)) = true then
  if (σ.1 (kf_rf v0 25) (Int32.toNatClampNeg (σ.1 v0 18))) ≤ v5 then
    kf_lt (v4 + 1) fun v4_3 =>
    rec20 v0 v1 v2 v3 v4_3 σ
  else
    if v2 < 0 then
      f_X12_confused_73 rec20 rec40 v0 v1 v4 v5 σ
    else
      (f_X12_callersApart v0 v4 v5 σ).bind fun q_5 =>
      if q_5.1 < v3 then
        f_X12_confused_73 rec20 rec40 v0 v1 v4 v5 q_5.2
      else
        f_X12_confused_91 rec20 rec40 v0 v1 v2 v3 v4 v5 q_5.2
  else none
def f_X12_confused_40 (rec20 : Nat → Int32 → Int32 → Int32 → Int32 → kf_St → Option (Int32 × kf_St)) : Nat → Nat → Int32 → Int32 → Int32 → Int32 → Int32 → kf_St → Option (Int32 × kf_St)
  | 0, _, _, _, _, _, _, _ => none
  | n + 1, v0, v1, v2, v3, v4, v5, σ => f_X12_confused_40_s rec20 (f_X12_confused_40 rec20 n) v0 v1 v2 v3 v4 v5 σ
set_option maxRecDepth 100000 in
set_option maxHeartbeats 4000000 in
theorem b_X12_confused_40_s {X : kf_X} {G : kf_G} {rec20 : Nat → Int32 → Int32 → Int32 → Int32 → kf_St → Option (Int32 × kf_St)} (rec40 : Nat → Int32 → Int32 → Int32 → Int32 → Int32 → kf_St → Option (Int32 × kf_St)) {q : (Int32 × kf_St)} (E : kf_ok X G cX12_confused RX12 6 (some .int) (3)) (hty : kf_wt G) (hrec20 : ∀ (v0 : Nat) (v1 : Int32) (v2 : Int32) (v3 : Int32) (v4 : Int32) (k_v0 : kf_kd G v0 = 13) (σ : kf_St), rec20 v0 v1 v2 v3 v4 σ = some q → kf_WA X G 6 (kf_Q X G (some (.int q.1)) q.2) 20 [(0, .ref (kf_ad G v0)), (1, .int v1), (2, .int v2), (3, .int v3), (4, .int v4)] [] σ) (hrec40 : ∀ (v0 : Nat) (v1 : Int32) (v2 : Int32) (v3 : Int32) (v4 : Int32) (v5 : Int32) (k_v0 : kf_kd G v0 = 13) (σ : kf_St), rec40 v0 v1 v2 v3 v4 v5 σ = some q → kf_WA X G 6 (kf_Q X G (some (.int q.1)) q.2) 40 [(0, .ref (kf_ad G v0)), (1, .int v1), (2, .int v2), (3, .int v3), (4, .int v4), (5, .int v5)] [] σ) (v0 : Nat) (v1 : Int32) (v2 : Int32) (v3 : Int32) (v4 : Int32) (v5 : Int32) (k_v0 : kf_kd G v0 = 13) (σ : kf_St) (h : f_X12_confused_40_s rec20 rec40 v0 v1 v2 v3 v4 v5 σ = some q) : kf_WA X G 6 (kf_Q X G (some (.int q.1)) q.2) 40 [(0, .ref (kf_ad G v0)), (1, .int v1), (2, .int v2), (3, .int v3), (4, .int v4), (5, .int v5)] [] σ := by
  unfold f_X12_confused_40_s at h
  refine wa_iload 5 rfl E d_X12_confused_40 ?_
  refine wa_aload_n 0 rfl E d_X12_confused_42 ?_
  refine wa_getR fl_X12_52 k_v0 rfl E d_X12_confused_43 ?_
  refine wa_aload_n 0 rfl E d_X12_confused_46 ?_
  refine wa_getI fl_X12_233 k_v0 rfl E d_X12_confused_47 ?_
  obtain ⟨g_1, h⟩ := kf_gd h
  refine wa_iald (kf_wtf hty 25 49 k_v0 (by decide) rfl) g_1 E d_X12_confused_50 ?_
  refine wa_icmp_ge E d_X12_confused_51 (fun c_2 => ?_) (fun c_2 => ?_)
  · replace h := kf_ift c_2 h
    obtain ⟨v4_3, ev4_3, h⟩ := kf_lte h
    refine wa_iinc (lv' := [(4, .int v4_3), (0, .ref (kf_ad G v0)), (1, .int v1), (2, .int v2), (3, .int v3), (5, .int v5)]) v4_3 4 rfl (kf_inc ic_1 ev4_3) (by decide) rfl E d_X12_confused_97 ?_
    refine wa_goto E d_X12_confused_100 ?_
    refine wa_sub [1, 2, 3, 4, 0] rfl ?_
    exact hrec20 v0 v1 v2 v3 v4_3 k_v0 σ h
  · replace h := kf_iff c_2 h
    refine wa_iload_n 2 rfl E d_X12_confused_54 ?_
    refine wa_if_lt E d_X12_confused_55 (fun c_4 => ?_) (fun c_4 => ?_)
    · replace h := kf_ift c_4 h
      refine wa_sub [0, 1, 4, 5] rfl ?_
      exact b_X12_confused_73 E hty hrec20 hrec40 v0 v1 v4 v5 k_v0 σ h
    · replace h := kf_iff c_4 h
      refine wa_aload_n 0 rfl E d_X12_confused_58 ?_
      refine wa_iload 4 rfl E d_X12_confused_59 ?_
      refine wa_iload 5 rfl E d_X12_confused_61 ?_
      obtain ⟨q_5, hq_5, h⟩ := kf_bd h
      refine wa_callV (st2 := [.int q_5.1]) (c_X12_callersApart hty v0 v4 v5 k_v0 σ hq_5) mv_X12_callersApart ml_X12_436 k_v0 rfl (Nat.le_of_ble_eq_true rfl) rfl (Nat.le_of_ble_eq_true rfl) E d_X12_confused_63 rfl ?_
      refine wa_iload_n 3 rfl E d_X12_confused_66 ?_
      refine wa_icmp_lt E d_X12_confused_67 (fun c_6 => ?_) (fun c_6 => ?_)
      · replace h := kf_ift c_6 h
        refine wa_sub [0, 1, 4, 5] rfl ?_
        exact b_X12_confused_73 E hty hrec20 hrec40 v0 v1 v4 v5 k_v0 q_5.2 h
      · replace h := kf_iff c_6 h
        refine wa_goto E d_X12_confused_70 ?_
        exact b_X12_confused_91 E hty hrec20 hrec40 v0 v1 v2 v3 v4 v5 k_v0 q_5.2 h
theorem b_X12_confused_40 {X : kf_X} {G : kf_G} {rec20 : Nat → Int32 → Int32 → Int32 → Int32 → kf_St → Option (Int32 × kf_St)} {q : (Int32 × kf_St)} (E : kf_ok X G cX12_confused RX12 6 (some .int) (3)) (hty : kf_wt G) (hrec20 : ∀ (v0 : Nat) (v1 : Int32) (v2 : Int32) (v3 : Int32) (v4 : Int32) (k_v0 : kf_kd G v0 = 13) (σ : kf_St), rec20 v0 v1 v2 v3 v4 σ = some q → kf_WA X G 6 (kf_Q X G (some (.int q.1)) q.2) 20 [(0, .ref (kf_ad G v0)), (1, .int v1), (2, .int v2), (3, .int v3), (4, .int v4)] [] σ) : ∀ (N : Nat) (v0 : Nat) (v1 : Int32) (v2 : Int32) (v3 : Int32) (v4 : Int32) (v5 : Int32) (k_v0 : kf_kd G v0 = 13) (σ : kf_St) (_ : f_X12_confused_40 rec20 N v0 v1 v2 v3 v4 v5 σ = some q), kf_WA X G 6 (kf_Q X G (some (.int q.1)) q.2) 40 [(0, .ref (kf_ad G v0)), (1, .int v1), (2, .int v2), (3, .int v3), (4, .int v4), (5, .int v5)] [] σ
  | 0, _, _, _, _, _, _, _, _, h => by cases h
  | N + 1, v0, v1, v2, v3, v4, v5, k_v0, σ, h => b_X12_confused_40_s _ E hty hrec20 (b_X12_confused_40 E hty hrec20 N) v0 v1 v2 v3 v4 v5 k_v0 σ h
def f_X12_confused_20_s (rec20 : Nat → Int32 → Int32 → Int32 → Int32 → kf_St → Option (Int32 × kf_St)) (v0 : Nat) (v1 : Int32) (v2 : Int32) (v3 : Int32) (v4 : Int32) (σ : kf_St) : Option (Int32 × kf_St) :=
  if kf_ix (σ.1 v0 18) (kf_ln (kf_rf v0 25)) = true then
  if (σ.1 (kf_rf v0 25) (Int32.toNatClampNeg (σ.1 v0 18))) ≤ v4 then
    if v1 = 0 then
      some (v2, σ)
    else
      some (v3, σ)
  else
    kf_lt ((v4 + 1)) fun v5_4 =>
    f_X12_confused_40 rec20 kf_F v0 v1 v2 v3 v4 v5_4 σ
  else none
def f_X12_confused_20 : Nat → Nat → Int32 → Int32 → Int32 → Int32 → kf_St → Option (Int32 × kf_St)
  | 0, _, _, _, _, _, _ => none
  | n + 1, v0, v1, v2, v3, v4, σ => f_X12_confused_20_s (f_X12_confused_20 n) v0 v1 v2 v3 v4 σ
set_option maxRecDepth 100000 in
set_option maxHeartbeats 4000000 in
theorem b_X12_confused_20_s {X : kf_X} {G : kf_G} (rec20 : Nat → Int32 → Int32 → Int32 → Int32 → kf_St → Option (Int32 × kf_St)) {q : (Int32 × kf_St)} (E : kf_ok X G cX12_confused RX12 6 (some .int) (3)) (hty : kf_wt G) (hrec20 : ∀ (v0 : Nat) (v1 : Int32) (v2 : Int32) (v3 : Int32) (v4 : Int32) (k_v0 : kf_kd G v0 = 13) (σ : kf_St), rec20 v0 v1 v2 v3 v4 σ = some q → kf_WA X G 6 (kf_Q X G (some (.int q.1)) q.2) 20 [(0, .ref (kf_ad G v0)), (1, .int v1), (2, .int v2), (3, .int v3), (4, .int v4)] [] σ) (v0 : Nat) (v1 : Int32) (v2 : Int32) (v3 : Int32) (v4 : Int32) (k_v0 : kf_kd G v0 = 13) (σ : kf_St) (h : f_X12_confused_20_s rec20 v0 v1 v2 v3 v4 σ = some q) : kf_WA X G 6 (kf_Q X G (some (.int q.1)) q.2) 20 [(0, .ref (kf_ad G v0)), (1, .int v1), (2, .int v2), (3, .int v3), (4, .int v4)] [] σ := by
  unfold f_X12_confused_20_s at h
  refine wa_iload 4 rfl E d_X12_confused_20 ?_
  refine wa_aload_n 0 rfl E d_X12_confused_22 ?_
  refine wa_getR fl_X12_52 k_v0 rfl E d_X12_confused_23 ?_
  refine wa_aload_n 0 rfl E d_X12_confused_26 ?_
  refine wa_getI fl_X12_233 k_v0 rfl E d_X12_confused_27 ?_
  obtain ⟨g_1, h⟩ := kf_gd h
  refine wa_iald (kf_wtf hty 25 49 k_v0 (by decide) rfl) g_1 E d_X12_confused_30 ?_
  refine wa_icmp_ge E d_X12_confused_31 (fun c_2 => ?_) (fun c_2 => ?_)
  · replace h := kf_ift c_2 h
    refine wa_iload_n 1 rfl E d_X12_confused_103 ?_
    refine wa_if_ne E d_X12_confused_104 (fun c_3 => ?_) (fun c_3 => ?_)
    · replace h := kf_iff c_3 h
      refine wa_iload_n 3 rfl E d_X12_confused_111 ?_
      cases h
      exact wa_iret E d_X12_confused_112
    · replace h := kf_ift c_3 h
      refine wa_iload_n 2 rfl E d_X12_confused_107 ?_
      refine wa_goto E d_X12_confused_108 ?_
      cases h
      exact wa_iret E d_X12_confused_112
  · replace h := kf_iff c_2 h
    refine wa_iload 4 rfl E d_X12_confused_34 ?_
    refine wa_iconst 1 ic_1 E d_X12_confused_36 ?_
    refine wa_iadd E d_X12_confused_37 ?_
    obtain ⟨v5_4, ev5_4, h⟩ := kf_lte h
    refine wa_topi ev5_4 ?_
    refine wa_istore (lv' := [(5, .int v5_4), (0, .ref (kf_ad G v0)), (1, .int v1), (2, .int v2), (3, .int v3), (4, .int v4)]) (by decide) rfl E d_X12_confused_38 ?_
    refine wa_sub [1, 2, 3, 4, 5, 0] rfl ?_
    exact b_X12_confused_40 E hty hrec20 kf_F v0 v1 v2 v3 v4 v5_4 k_v0 σ h
theorem b_X12_confused_20 {X : kf_X} {G : kf_G} {q : (Int32 × kf_St)} (E : kf_ok X G cX12_confused RX12 6 (some .int) (3)) (hty : kf_wt G) : ∀ (N : Nat) (v0 : Nat) (v1 : Int32) (v2 : Int32) (v3 : Int32) (v4 : Int32) (k_v0 : kf_kd G v0 = 13) (σ : kf_St) (_ : f_X12_confused_20 N v0 v1 v2 v3 v4 σ = some q), kf_WA X G 6 (kf_Q X G (some (.int q.1)) q.2) 20 [(0, .ref (kf_ad G v0)), (1, .int v1), (2, .int v2), (3, .int v3), (4, .int v4)] [] σ
  | 0, _, _, _, _, _, _, _, h => by cases h
  | N + 1, v0, v1, v2, v3, v4, k_v0, σ, h => b_X12_confused_20_s _ E hty (b_X12_confused_20 E hty N) v0 v1 v2 v3 v4 k_v0 σ h
def f_X12_confused (v0 : Nat) (v1 : Int32) (σ : kf_St) : Option (Int32 × kf_St) :=
  (f_X12_in v1 0 1 σ).bind fun q_1 =>
  if q_1.1 = 0 then
    some ((-1), q_1.2)
  else
    f_X12_confused_20 kf_F v0 v1 (-2) (-2) 0 q_1.2
set_option maxRecDepth 100000 in
set_option maxHeartbeats 4000000 in
theorem c_X12_confused {G : kf_G} (hty : kf_wt G) (v0 : Nat) (v1 : Int32) (k_v0 : kf_kd G v0 = 13) (σ : kf_St) {q : (Int32 × kf_St)} (h : f_X12_confused v0 v1 σ = some q) : kf_Ct (3) yX12_confused cX12_confused 6 (some .int) G [.ref (kf_ad G v0), .int v1] σ (some (.int q.1)) q.2 := by
  refine kf_Ct.of hty.1 (lv := [(0, .ref (kf_ad G v0)), (1, .int v1)]) (by decide +kernel) rfl (Nat.le_of_ble_eq_true rfl) (fun X E => ?_)
  unfold f_X12_confused at h
  refine wa_iload_n 1 rfl E d_X12_confused_0 ?_
  refine wa_iconst 0 ic_0 E d_X12_confused_1 ?_
  refine wa_iconst 1 ic_1 E d_X12_confused_2 ?_
  obtain ⟨q_1, hq_1, h⟩ := kf_bd h
  refine wa_callS (st2 := [.int q_1.1]) (c_X12_in hty v1 0 1 σ hq_1) mt_X12_in ml_X12_313 rfl (Nat.le_of_ble_eq_true rfl) rfl (Nat.le_of_ble_eq_true rfl) E d_X12_confused_3 rfl ?_
  refine wa_if_ne E d_X12_confused_6 (fun c_2 => ?_) (fun c_2 => ?_)
  · replace h := kf_iff c_2 h
    refine wa_bipush (-2) bp_m2 E d_X12_confused_11 ?_
    refine wa_istore_n (lv' := [(2, .int (-2)), (0, .ref (kf_ad G v0)), (1, .int v1)]) rfl (by decide) rfl E d_X12_confused_13 ?_
    refine wa_bipush (-2) bp_m2 E d_X12_confused_14 ?_
    refine wa_istore_n (lv' := [(3, .int (-2)), (2, .int (-2)), (0, .ref (kf_ad G v0)), (1, .int v1)]) rfl (by decide) rfl E d_X12_confused_16 ?_
    refine wa_iconst 0 ic_0 E d_X12_confused_17 ?_
    refine wa_istore (lv' := [(4, .int 0), (3, .int (-2)), (2, .int (-2)), (0, .ref (kf_ad G v0)), (1, .int v1)]) (by decide) rfl E d_X12_confused_18 ?_
    refine wa_sub [3, 4, 2, 1, 0] rfl ?_
    exact b_X12_confused_20 E hty kf_F v0 v1 (-2) (-2) 0 k_v0 q_1.2 h
  · replace h := kf_ift c_2 h
    refine wa_iconst (-1) ic_m1 E d_X12_confused_9 ?_
    cases h
    exact wa_iret E d_X12_confused_10
/-! X12_with -/
theorem d_X12_with_0 : kf_dq cX12_with 0 1 1 (.aload_n 0) := ⟨by decide +kernel, rfl⟩
theorem d_X12_with_1 : kf_dq cX12_with 1 2 1 (.iload_n 1) := ⟨by decide +kernel, rfl⟩
theorem d_X12_with_2 : kf_dq cX12_with 2 3 1 (.iload_n 2) := ⟨by decide +kernel, rfl⟩
theorem d_X12_with_3 : kf_dq cX12_with 3 6 3 (.invokevirtual 342) := ⟨by decide +kernel, rfl⟩
theorem d_X12_with_6 : kf_dq cX12_with 6 9 3 (.sipush 10000) := ⟨by decide +kernel, rfl⟩
theorem d_X12_with_9 : kf_dq cX12_with 9 10 1 (.isub) := ⟨by decide +kernel, rfl⟩
theorem d_X12_with_10 : kf_dq cX12_with 10 11 1 (.aload_n 0) := ⟨by decide +kernel, rfl⟩
theorem d_X12_with_11 : kf_dq cX12_with 11 14 3 (.getfield 131) := ⟨by decide +kernel, rfl⟩
theorem d_X12_with_14 : kf_dq cX12_with 14 16 2 (.bipush 32) := ⟨by decide +kernel, rfl⟩
theorem d_X12_with_16 : kf_dq cX12_with 16 17 1 (.iload_n 1) := ⟨by decide +kernel, rfl⟩
theorem d_X12_with_17 : kf_dq cX12_with 17 18 1 (.imul) := ⟨by decide +kernel, rfl⟩
theorem d_X12_with_18 : kf_dq cX12_with 18 20 2 (.bipush 32) := ⟨by decide +kernel, rfl⟩
theorem d_X12_with_20 : kf_dq cX12_with 20 21 1 (.iadd) := ⟨by decide +kernel, rfl⟩
theorem d_X12_with_21 : kf_dq cX12_with 21 22 1 (.iload_n 3) := ⟨by decide +kernel, rfl⟩
theorem d_X12_with_22 : kf_dq cX12_with 22 23 1 (.iconst 1) := ⟨by decide +kernel, rfl⟩
theorem d_X12_with_23 : kf_dq cX12_with 23 24 1 (.iload_n 2) := ⟨by decide +kernel, rfl⟩
theorem d_X12_with_24 : kf_dq cX12_with 24 25 1 (.ishl) := ⟨by decide +kernel, rfl⟩
theorem d_X12_with_25 : kf_dq cX12_with 25 26 1 (.ior) := ⟨by decide +kernel, rfl⟩
theorem d_X12_with_26 : kf_dq cX12_with 26 27 1 (.iadd) := ⟨by decide +kernel, rfl⟩
theorem d_X12_with_27 : kf_dq cX12_with 27 28 1 (.iaload) := ⟨by decide +kernel, rfl⟩
theorem d_X12_with_28 : kf_dq cX12_with 28 29 1 (.iadd) := ⟨by decide +kernel, rfl⟩
theorem d_X12_with_29 : kf_dq cX12_with 29 30 1 (.ireturn) := ⟨by decide +kernel, rfl⟩
def f_X12_with (v0 : Nat) (v1 : Int32) (v2 : Int32) (v3 : Int32) (σ : kf_St) : Option (Int32 × kf_St) :=
  (f_X12_unlikeTo v0 v1 v2 σ).bind fun q_1 =>
  if kf_ix (((32 * v1) + 32) + (v3 ||| ((1 : Int32) <<< (v2 &&& 31)))) (kf_ln (kf_rf v0 58)) = true then
  some (((q_1.1 - 10000) + (q_1.2.1 (kf_rf v0 58) (Int32.toNatClampNeg (((32 * v1) + 32) + (v3 ||| ((1 : Int32) <<< (v2 &&& 31))))))), q_1.2)
  else none
set_option maxRecDepth 100000 in
set_option maxHeartbeats 4000000 in
theorem c_X12_with {G : kf_G} (hty : kf_wt G) (v0 : Nat) (v1 : Int32) (v2 : Int32) (v3 : Int32) (k_v0 : kf_kd G v0 = 13) (σ : kf_St) {q : (Int32 × kf_St)} (h : f_X12_with v0 v1 v2 v3 σ = some q) : kf_Ct (3) yX12_with cX12_with 4 (some .int) G [.ref (kf_ad G v0), .int v1, .int v2, .int v3] σ (some (.int q.1)) q.2 := by
  refine kf_Ct.of hty.1 (lv := [(0, .ref (kf_ad G v0)), (1, .int v1), (2, .int v2), (3, .int v3)]) (by decide +kernel) rfl (Nat.le_of_ble_eq_true rfl) (fun X E => ?_)
  unfold f_X12_with at h
  refine wa_aload_n 0 rfl E d_X12_with_0 ?_
  refine wa_iload_n 1 rfl E d_X12_with_1 ?_
  refine wa_iload_n 2 rfl E d_X12_with_2 ?_
  obtain ⟨q_1, hq_1, h⟩ := kf_bd h
  refine wa_callV (st2 := [.int q_1.1]) (c_X12_unlikeTo hty v0 v1 v2 k_v0 σ hq_1) mv_X12_unlikeTo ml_X12_342 k_v0 rfl (Nat.le_of_ble_eq_true rfl) rfl (Nat.le_of_ble_eq_true rfl) E d_X12_with_3 rfl ?_
  refine wa_sipush 10000 sp_10000 E d_X12_with_6 ?_
  refine wa_isub E d_X12_with_9 ?_
  refine wa_aload_n 0 rfl E d_X12_with_10 ?_
  refine wa_getR fl_X12_131 k_v0 rfl E d_X12_with_11 ?_
  refine wa_bipush 32 bp_32 E d_X12_with_14 ?_
  refine wa_iload_n 1 rfl E d_X12_with_16 ?_
  refine wa_imul E d_X12_with_17 ?_
  refine wa_bipush 32 bp_32 E d_X12_with_18 ?_
  refine wa_iadd E d_X12_with_20 ?_
  refine wa_iload_n 3 rfl E d_X12_with_21 ?_
  refine wa_iconst 1 ic_1 E d_X12_with_22 ?_
  refine wa_iload_n 2 rfl E d_X12_with_23 ?_
  refine wa_ishl E d_X12_with_24 ?_
  refine wa_ior E d_X12_with_25 ?_
  refine wa_iadd E d_X12_with_26 ?_
  obtain ⟨g_2, h⟩ := kf_gd h
  refine wa_iald (kf_wtf hty 58 49 k_v0 (by decide) rfl) g_2 E d_X12_with_27 ?_
  refine wa_iadd E d_X12_with_28 ?_
  cases h
  exact wa_iret E d_X12_with_29
/-! X12_fillsPaired -/
theorem d_X12_fillsPaired_0 : kf_dq cX12_fillsPaired 0 1 1 (.aload_n 0) := ⟨by decide +kernel, rfl⟩
theorem d_X12_fillsPaired_1 : kf_dq cX12_fillsPaired 1 4 3 (.invokevirtual 323) := ⟨by decide +kernel, rfl⟩
theorem d_X12_fillsPaired_4 : kf_dq cX12_fillsPaired 4 5 1 (.iconst 0) := ⟨by decide +kernel, rfl⟩
theorem d_X12_fillsPaired_5 : kf_dq cX12_fillsPaired 5 6 1 (.istore_n 1) := ⟨by decide +kernel, rfl⟩
theorem d_X12_fillsPaired_6 : kf_dq cX12_fillsPaired 6 7 1 (.iload_n 1) := ⟨by decide +kernel, rfl⟩
theorem d_X12_fillsPaired_7 : kf_dq cX12_fillsPaired 7 9 2 (.bipush 32) := ⟨by decide +kernel, rfl⟩
theorem d_X12_fillsPaired_9 : kf_dj cX12_fillsPaired 9 12 38 (.if_icmp .ge) := ⟨29, by decide +kernel, rfl, by decide⟩
theorem d_X12_fillsPaired_12 : kf_dq cX12_fillsPaired 12 13 1 (.aload_n 0) := ⟨by decide +kernel, rfl⟩
theorem d_X12_fillsPaired_13 : kf_dq cX12_fillsPaired 13 16 3 (.getfield 131) := ⟨by decide +kernel, rfl⟩
theorem d_X12_fillsPaired_16 : kf_dq cX12_fillsPaired 16 18 2 (.bipush 32) := ⟨by decide +kernel, rfl⟩
theorem d_X12_fillsPaired_18 : kf_dq cX12_fillsPaired 18 19 1 (.aload_n 0) := ⟨by decide +kernel, rfl⟩
theorem d_X12_fillsPaired_19 : kf_dq cX12_fillsPaired 19 22 3 (.getfield 46) := ⟨by decide +kernel, rfl⟩
theorem d_X12_fillsPaired_22 : kf_dq cX12_fillsPaired 22 23 1 (.aload_n 0) := ⟨by decide +kernel, rfl⟩
theorem d_X12_fillsPaired_23 : kf_dq cX12_fillsPaired 23 26 3 (.getfield 233) := ⟨by decide +kernel, rfl⟩
theorem d_X12_fillsPaired_26 : kf_dq cX12_fillsPaired 26 27 1 (.iaload) := ⟨by decide +kernel, rfl⟩
theorem d_X12_fillsPaired_27 : kf_dq cX12_fillsPaired 27 28 1 (.imul) := ⟨by decide +kernel, rfl⟩
theorem d_X12_fillsPaired_28 : kf_dq cX12_fillsPaired 28 29 1 (.iload_n 1) := ⟨by decide +kernel, rfl⟩
theorem d_X12_fillsPaired_29 : kf_dq cX12_fillsPaired 29 30 1 (.iadd) := ⟨by decide +kernel, rfl⟩
theorem d_X12_fillsPaired_30 : kf_dq cX12_fillsPaired 30 31 1 (.iconst 0) := ⟨by decide +kernel, rfl⟩
theorem d_X12_fillsPaired_31 : kf_dq cX12_fillsPaired 31 32 1 (.iastore) := ⟨by decide +kernel, rfl⟩
theorem d_X12_fillsPaired_32 : kf_dq cX12_fillsPaired 32 35 3 (.iinc 1 1) := ⟨by decide +kernel, rfl⟩
theorem d_X12_fillsPaired_35 : kf_dj cX12_fillsPaired 35 38 6 .goto := ⟨(-29), by decide +kernel, rfl, by decide⟩
theorem d_X12_fillsPaired_38 : kf_dq cX12_fillsPaired 38 39 1 (.aload_n 0) := ⟨by decide +kernel, rfl⟩
theorem d_X12_fillsPaired_39 : kf_dq cX12_fillsPaired 39 42 3 (.getfield 46) := ⟨by decide +kernel, rfl⟩
theorem d_X12_fillsPaired_42 : kf_dq cX12_fillsPaired 42 43 1 (.aload_n 0) := ⟨by decide +kernel, rfl⟩
theorem d_X12_fillsPaired_43 : kf_dq cX12_fillsPaired 43 46 3 (.getfield 233) := ⟨by decide +kernel, rfl⟩
theorem d_X12_fillsPaired_46 : kf_dq cX12_fillsPaired 46 47 1 (.iaload) := ⟨by decide +kernel, rfl⟩
theorem d_X12_fillsPaired_47 : kf_dq cX12_fillsPaired 47 48 1 (.iconst 1) := ⟨by decide +kernel, rfl⟩
theorem d_X12_fillsPaired_48 : kf_dq cX12_fillsPaired 48 49 1 (.isub) := ⟨by decide +kernel, rfl⟩
theorem d_X12_fillsPaired_49 : kf_dq cX12_fillsPaired 49 50 1 (.istore_n 1) := ⟨by decide +kernel, rfl⟩
theorem d_X12_fillsPaired_50 : kf_dq cX12_fillsPaired 50 51 1 (.iload_n 1) := ⟨by decide +kernel, rfl⟩
theorem d_X12_fillsPaired_51 : kf_dj cX12_fillsPaired 51 54 154 (.ifCond .lt) := ⟨103, by decide +kernel, rfl, by decide⟩
theorem d_X12_fillsPaired_54 : kf_dq cX12_fillsPaired 54 55 1 (.iconst 0) := ⟨by decide +kernel, rfl⟩
theorem d_X12_fillsPaired_55 : kf_dq cX12_fillsPaired 55 56 1 (.istore_n 2) := ⟨by decide +kernel, rfl⟩
theorem d_X12_fillsPaired_56 : kf_dq cX12_fillsPaired 56 57 1 (.iload_n 2) := ⟨by decide +kernel, rfl⟩
theorem d_X12_fillsPaired_57 : kf_dq cX12_fillsPaired 57 59 2 (.bipush 32) := ⟨by decide +kernel, rfl⟩
theorem d_X12_fillsPaired_59 : kf_dj cX12_fillsPaired 59 62 148 (.if_icmp .ge) := ⟨89, by decide +kernel, rfl, by decide⟩
theorem d_X12_fillsPaired_62 : kf_dq cX12_fillsPaired 62 63 1 (.aload_n 0) := ⟨by decide +kernel, rfl⟩
theorem d_X12_fillsPaired_63 : kf_dq cX12_fillsPaired 63 66 3 (.getfield 131) := ⟨by decide +kernel, rfl⟩
theorem d_X12_fillsPaired_66 : kf_dq cX12_fillsPaired 66 68 2 (.bipush 32) := ⟨by decide +kernel, rfl⟩
theorem d_X12_fillsPaired_68 : kf_dq cX12_fillsPaired 68 69 1 (.iload_n 1) := ⟨by decide +kernel, rfl⟩
theorem d_X12_fillsPaired_69 : kf_dq cX12_fillsPaired 69 70 1 (.imul) := ⟨by decide +kernel, rfl⟩
theorem d_X12_fillsPaired_70 : kf_dq cX12_fillsPaired 70 72 2 (.bipush 32) := ⟨by decide +kernel, rfl⟩
theorem d_X12_fillsPaired_72 : kf_dq cX12_fillsPaired 72 73 1 (.iadd) := ⟨by decide +kernel, rfl⟩
theorem d_X12_fillsPaired_73 : kf_dq cX12_fillsPaired 73 74 1 (.iload_n 2) := ⟨by decide +kernel, rfl⟩
theorem d_X12_fillsPaired_74 : kf_dq cX12_fillsPaired 74 75 1 (.iadd) := ⟨by decide +kernel, rfl⟩
theorem d_X12_fillsPaired_75 : kf_dq cX12_fillsPaired 75 76 1 (.iaload) := ⟨by decide +kernel, rfl⟩
theorem d_X12_fillsPaired_76 : kf_dq cX12_fillsPaired 76 77 1 (.istore_n 3) := ⟨by decide +kernel, rfl⟩
theorem d_X12_fillsPaired_77 : kf_dq cX12_fillsPaired 77 78 1 (.iconst 0) := ⟨by decide +kernel, rfl⟩
theorem d_X12_fillsPaired_78 : kf_dq cX12_fillsPaired 78 80 2 (.istore 4) := ⟨by decide +kernel, rfl⟩
theorem d_X12_fillsPaired_80 : kf_dq cX12_fillsPaired 80 82 2 (.iload 4) := ⟨by decide +kernel, rfl⟩
theorem d_X12_fillsPaired_82 : kf_dq cX12_fillsPaired 82 83 1 (.aload_n 0) := ⟨by decide +kernel, rfl⟩
theorem d_X12_fillsPaired_83 : kf_dq cX12_fillsPaired 83 86 3 (.getfield 52) := ⟨by decide +kernel, rfl⟩
theorem d_X12_fillsPaired_86 : kf_dq cX12_fillsPaired 86 87 1 (.aload_n 0) := ⟨by decide +kernel, rfl⟩
theorem d_X12_fillsPaired_87 : kf_dq cX12_fillsPaired 87 90 3 (.getfield 233) := ⟨by decide +kernel, rfl⟩
theorem d_X12_fillsPaired_90 : kf_dq cX12_fillsPaired 90 91 1 (.iaload) := ⟨by decide +kernel, rfl⟩
theorem d_X12_fillsPaired_91 : kf_dj cX12_fillsPaired 91 94 130 (.if_icmp .ge) := ⟨39, by decide +kernel, rfl, by decide⟩
theorem d_X12_fillsPaired_94 : kf_dq cX12_fillsPaired 94 95 1 (.iload_n 2) := ⟨by decide +kernel, rfl⟩
theorem d_X12_fillsPaired_95 : kf_dq cX12_fillsPaired 95 97 2 (.iload 4) := ⟨by decide +kernel, rfl⟩
theorem d_X12_fillsPaired_97 : kf_dq cX12_fillsPaired 97 98 1 (.ishr) := ⟨by decide +kernel, rfl⟩
theorem d_X12_fillsPaired_98 : kf_dq cX12_fillsPaired 98 99 1 (.iconst 1) := ⟨by decide +kernel, rfl⟩
theorem d_X12_fillsPaired_99 : kf_dq cX12_fillsPaired 99 100 1 (.iand) := ⟨by decide +kernel, rfl⟩
theorem d_X12_fillsPaired_100 : kf_dj cX12_fillsPaired 100 103 124 (.ifCond .ne) := ⟨24, by decide +kernel, rfl, by decide⟩
theorem d_X12_fillsPaired_103 : kf_dq cX12_fillsPaired 103 104 1 (.aload_n 0) := ⟨by decide +kernel, rfl⟩
theorem d_X12_fillsPaired_104 : kf_dq cX12_fillsPaired 104 105 1 (.iload_n 1) := ⟨by decide +kernel, rfl⟩
theorem d_X12_fillsPaired_105 : kf_dq cX12_fillsPaired 105 107 2 (.iload 4) := ⟨by decide +kernel, rfl⟩
theorem d_X12_fillsPaired_107 : kf_dq cX12_fillsPaired 107 108 1 (.iload_n 2) := ⟨by decide +kernel, rfl⟩
theorem d_X12_fillsPaired_108 : kf_dq cX12_fillsPaired 108 111 3 (.invokevirtual 439) := ⟨by decide +kernel, rfl⟩
theorem d_X12_fillsPaired_111 : kf_dq cX12_fillsPaired 111 112 1 (.iload_n 3) := ⟨by decide +kernel, rfl⟩
theorem d_X12_fillsPaired_112 : kf_dj cX12_fillsPaired 112 115 124 (.if_icmp .ge) := ⟨12, by decide +kernel, rfl, by decide⟩
theorem d_X12_fillsPaired_115 : kf_dq cX12_fillsPaired 115 116 1 (.aload_n 0) := ⟨by decide +kernel, rfl⟩
theorem d_X12_fillsPaired_116 : kf_dq cX12_fillsPaired 116 117 1 (.iload_n 1) := ⟨by decide +kernel, rfl⟩
theorem d_X12_fillsPaired_117 : kf_dq cX12_fillsPaired 117 119 2 (.iload 4) := ⟨by decide +kernel, rfl⟩
theorem d_X12_fillsPaired_119 : kf_dq cX12_fillsPaired 119 120 1 (.iload_n 2) := ⟨by decide +kernel, rfl⟩
theorem d_X12_fillsPaired_120 : kf_dq cX12_fillsPaired 120 123 3 (.invokevirtual 439) := ⟨by decide +kernel, rfl⟩
theorem d_X12_fillsPaired_123 : kf_dq cX12_fillsPaired 123 124 1 (.istore_n 3) := ⟨by decide +kernel, rfl⟩
theorem d_X12_fillsPaired_124 : kf_dq cX12_fillsPaired 124 127 3 (.iinc 4 1) := ⟨by decide +kernel, rfl⟩
theorem d_X12_fillsPaired_127 : kf_dj cX12_fillsPaired 127 130 80 .goto := ⟨(-47), by decide +kernel, rfl, by decide⟩
theorem d_X12_fillsPaired_130 : kf_dq cX12_fillsPaired 130 131 1 (.aload_n 0) := ⟨by decide +kernel, rfl⟩
theorem d_X12_fillsPaired_131 : kf_dq cX12_fillsPaired 131 134 3 (.getfield 131) := ⟨by decide +kernel, rfl⟩
theorem d_X12_fillsPaired_134 : kf_dq cX12_fillsPaired 134 136 2 (.bipush 32) := ⟨by decide +kernel, rfl⟩
theorem d_X12_fillsPaired_136 : kf_dq cX12_fillsPaired 136 137 1 (.iload_n 1) := ⟨by decide +kernel, rfl⟩
theorem d_X12_fillsPaired_137 : kf_dq cX12_fillsPaired 137 138 1 (.imul) := ⟨by decide +kernel, rfl⟩
theorem d_X12_fillsPaired_138 : kf_dq cX12_fillsPaired 138 139 1 (.iload_n 2) := ⟨by decide +kernel, rfl⟩
theorem d_X12_fillsPaired_139 : kf_dq cX12_fillsPaired 139 140 1 (.iadd) := ⟨by decide +kernel, rfl⟩
theorem d_X12_fillsPaired_140 : kf_dq cX12_fillsPaired 140 141 1 (.iload_n 3) := ⟨by decide +kernel, rfl⟩
theorem d_X12_fillsPaired_141 : kf_dq cX12_fillsPaired 141 142 1 (.iastore) := ⟨by decide +kernel, rfl⟩
theorem d_X12_fillsPaired_142 : kf_dq cX12_fillsPaired 142 145 3 (.iinc 2 1) := ⟨by decide +kernel, rfl⟩
theorem d_X12_fillsPaired_145 : kf_dj cX12_fillsPaired 145 148 56 .goto := ⟨(-89), by decide +kernel, rfl, by decide⟩
theorem d_X12_fillsPaired_148 : kf_dq cX12_fillsPaired 148 151 3 (.iinc 1 (-1)) := ⟨by decide +kernel, rfl⟩
theorem d_X12_fillsPaired_151 : kf_dj cX12_fillsPaired 151 154 50 .goto := ⟨(-101), by decide +kernel, rfl, by decide⟩
theorem d_X12_fillsPaired_154 : kf_dq cX12_fillsPaired 154 155 1 (.return_) := ⟨by decide +kernel, rfl⟩
def f_X12_fillsPaired_124 (rec50 : Nat → Int32 → kf_St → Option kf_St) (rec56 : Nat → Int32 → Int32 → kf_St → Option kf_St) (rec80 : Nat → Int32 → Int32 → Int32 → Int32 → kf_St → Option kf_St) (v0 : Nat) (v1 : Int32) (v2 : Int32) (v3 : Int32) (v4 : Int32) (σ : kf_St) : Option kf_St :=
  kf_lt (v4 + 1) fun v4_1 =>
  rec80 v0 v1 v2 v3 v4_1 σ
set_option maxRecDepth 100000 in
set_option maxHeartbeats 4000000 in
theorem b_X12_fillsPaired_124 {X : kf_X} {G : kf_G} {rec50 : Nat → Int32 → kf_St → Option kf_St} {rec56 : Nat → Int32 → Int32 → kf_St → Option kf_St} {rec80 : Nat → Int32 → Int32 → Int32 → Int32 → kf_St → Option kf_St} {q : kf_St} (E : kf_ok X G cX12_fillsPaired RX12 5 none (4)) (hty : kf_wt G) (hrec50 : ∀ (v0 : Nat) (v1 : Int32) (k_v0 : kf_kd G v0 = 13) (σ : kf_St), rec50 v0 v1 σ = some q → kf_WA X G 5 (kf_Q X G none q) 50 [(0, .ref (kf_ad G v0)), (1, .int v1)] [] σ) (hrec56 : ∀ (v0 : Nat) (v1 : Int32) (v2 : Int32) (k_v0 : kf_kd G v0 = 13) (σ : kf_St), rec56 v0 v1 v2 σ = some q → kf_WA X G 5 (kf_Q X G none q) 56 [(0, .ref (kf_ad G v0)), (1, .int v1), (2, .int v2)] [] σ) (hrec80 : ∀ (v0 : Nat) (v1 : Int32) (v2 : Int32) (v3 : Int32) (v4 : Int32) (k_v0 : kf_kd G v0 = 13) (σ : kf_St), rec80 v0 v1 v2 v3 v4 σ = some q → kf_WA X G 5 (kf_Q X G none q) 80 [(0, .ref (kf_ad G v0)), (1, .int v1), (2, .int v2), (3, .int v3), (4, .int v4)] [] σ) (v0 : Nat) (v1 : Int32) (v2 : Int32) (v3 : Int32) (v4 : Int32) (k_v0 : kf_kd G v0 = 13) (σ : kf_St) (h : f_X12_fillsPaired_124 rec50 rec56 rec80 v0 v1 v2 v3 v4 σ = some q) : kf_WA X G 5 (kf_Q X G none q) 124 [(0, .ref (kf_ad G v0)), (1, .int v1), (2, .int v2), (3, .int v3), (4, .int v4)] [] σ := by
  unfold f_X12_fillsPaired_124 at h
  obtain ⟨v4_1, ev4_1, h⟩ := kf_lte h
  refine wa_iinc (lv' := [(4, .int v4_1), (0, .ref (kf_ad G v0)), (1, .int v1), (2, .int v2), (3, .int v3)]) v4_1 4 rfl (kf_inc ic_1 ev4_1) (by decide) rfl E d_X12_fillsPaired_124 ?_
  refine wa_goto E d_X12_fillsPaired_127 ?_
  refine wa_sub [1, 2, 3, 4, 0] rfl ?_
  exact hrec80 v0 v1 v2 v3 v4_1 k_v0 σ h
def f_X12_fillsPaired_80_s (rec50 : Nat → Int32 → kf_St → Option kf_St) (rec56 : Nat → Int32 → Int32 → kf_St → Option kf_St) (rec80 : Nat → Int32 → Int32 → Int32 → Int32 → kf_St → Option kf_St) (v0 : Nat) (v1 : Int32) (v2 : Int32) (v3 : Int32) (v4 : Int32) (σ : kf_St) : Option kf_St :=
  if kf_ix (σ.1 v0 18) (kf_ln (kf_rf v0 25)) = true then
  if (σ.1 (kf_rf v0 25) (Int32.toNatClampNeg (σ.1 v0 18))) ≤ v4 then
    if kf_ix ((32 * v1) + v2) (kf_ln (kf_rf v0 58)) = true then
    kf_lt (kf_wi σ (kf_rf v0 58) (Int32.toNatClampNeg ((32 * v1) + v2)) v3) fun σ_4 =>
    kf_lt (v2 + 1) fun v2_5 =>
    rec56 v0 v1 v2_5 σ_4
    else none
  else
    if ((v2 >>> (v4 &&& 31)) &&& 1) = 0 then
      (f_X12_with v0 v1 v4 v2 σ).bind fun q_7 =>
      if v3 ≤ q_7.1 then
        f_X12_fillsPaired_124 rec50 rec56 rec80 v0 v1 v2 v3 v4 q_7.2
      else
        (f_X12_with v0 v1 v4 v2 q_7.2).bind fun q_9 =>
        f_X12_fillsPaired_124 rec50 rec56 rec80 v0 v1 v2 q_9.1 v4 q_9.2
    else
      f_X12_fillsPaired_124 rec50 rec56 rec80 v0 v1 v2 v3 v4 σ
  else none
def f_X12_fillsPaired_80 (rec50 : Nat → Int32 → kf_St → Option kf_St) (rec56 : Nat → Int32 → Int32 → kf_St → Option kf_St) : Nat → Nat → Int32 → Int32 → Int32 → Int32 → kf_St → Option kf_St
  | 0, _, _, _, _, _, _ => none
  | n + 1, v0, v1, v2, v3, v4, σ => f_X12_fillsPaired_80_s rec50 rec56 (f_X12_fillsPaired_80 rec50 rec56 n) v0 v1 v2 v3 v4 σ
set_option maxRecDepth 100000 in
set_option maxHeartbeats 4000000 in
theorem b_X12_fillsPaired_80_s {X : kf_X} {G : kf_G} {rec50 : Nat → Int32 → kf_St → Option kf_St} {rec56 : Nat → Int32 → Int32 → kf_St → Option kf_St} (rec80 : Nat → Int32 → Int32 → Int32 → Int32 → kf_St → Option kf_St) {q : kf_St} (E : kf_ok X G cX12_fillsPaired RX12 5 none (4)) (hty : kf_wt G) (hrec50 : ∀ (v0 : Nat) (v1 : Int32) (k_v0 : kf_kd G v0 = 13) (σ : kf_St), rec50 v0 v1 σ = some q → kf_WA X G 5 (kf_Q X G none q) 50 [(0, .ref (kf_ad G v0)), (1, .int v1)] [] σ) (hrec56 : ∀ (v0 : Nat) (v1 : Int32) (v2 : Int32) (k_v0 : kf_kd G v0 = 13) (σ : kf_St), rec56 v0 v1 v2 σ = some q → kf_WA X G 5 (kf_Q X G none q) 56 [(0, .ref (kf_ad G v0)), (1, .int v1), (2, .int v2)] [] σ) (hrec80 : ∀ (v0 : Nat) (v1 : Int32) (v2 : Int32) (v3 : Int32) (v4 : Int32) (k_v0 : kf_kd G v0 = 13) (σ : kf_St), rec80 v0 v1 v2 v3 v4 σ = some q → kf_WA X G 5 (kf_Q X G none q) 80 [(0, .ref (kf_ad G v0)), (1, .int v1), (2, .int v2), (3, .int v3), (4, .int v4)] [] σ) (v0 : Nat) (v1 : Int32) (v2 : Int32) (v3 : Int32) (v4 : Int32) (k_v0 : kf_kd G v0 = 13) (σ : kf_St) (h : f_X12_fillsPaired_80_s rec50 rec56 rec80 v0 v1 v2 v3 v4 σ = some q) : kf_WA X G 5 (kf_Q X G none q) 80 [(0, .ref (kf_ad G v0)), (1, .int v1), (2, .int v2), (3, .int v3), (4, .int v4)] [] σ := by
  unfold f_X12_fillsPaired_80_s at h
  refine wa_iload 4 rfl E d_X12_fillsPaired_80 ?_
  refine wa_aload_n 0 rfl E d_X12_fillsPaired_82 ?_
  refine wa_getR fl_X12_52 k_v0 rfl E d_X12_fillsPaired_83 ?_
  refine wa_aload_n 0 rfl E d_X12_fillsPaired_86 ?_
  refine wa_getI fl_X12_233 k_v0 rfl E d_X12_fillsPaired_87 ?_
  obtain ⟨g_1, h⟩ := kf_gd h
  refine wa_iald (kf_wtf hty 25 49 k_v0 (by decide) rfl) g_1 E d_X12_fillsPaired_90 ?_
  refine wa_icmp_ge E d_X12_fillsPaired_91 (fun c_2 => ?_) (fun c_2 => ?_)
  · replace h := kf_ift c_2 h
    refine wa_aload_n 0 rfl E d_X12_fillsPaired_130 ?_
    refine wa_getR fl_X12_131 k_v0 rfl E d_X12_fillsPaired_131 ?_
    refine wa_bipush 32 bp_32 E d_X12_fillsPaired_134 ?_
    refine wa_iload_n 1 rfl E d_X12_fillsPaired_136 ?_
    refine wa_imul E d_X12_fillsPaired_137 ?_
    refine wa_iload_n 2 rfl E d_X12_fillsPaired_138 ?_
    refine wa_iadd E d_X12_fillsPaired_139 ?_
    refine wa_iload_n 3 rfl E d_X12_fillsPaired_140 ?_
    obtain ⟨g_3, h⟩ := kf_gd h
    obtain ⟨σ_4, eσ_4, h⟩ := kf_lte h
    refine wa_iast (kf_wtf hty 58 49 k_v0 (by decide) rfl) g_3 E d_X12_fillsPaired_141 eσ_4 ?_
    obtain ⟨v2_5, ev2_5, h⟩ := kf_lte h
    refine wa_iinc (lv' := [(2, .int v2_5), (0, .ref (kf_ad G v0)), (1, .int v1), (3, .int v3), (4, .int v4)]) v2_5 2 rfl (kf_inc ic_1 ev2_5) (by decide) rfl E d_X12_fillsPaired_142 ?_
    refine wa_goto E d_X12_fillsPaired_145 ?_
    refine wa_sub [1, 2, 0] rfl ?_
    exact hrec56 v0 v1 v2_5 k_v0 σ_4 h
  · replace h := kf_iff c_2 h
    refine wa_iload_n 2 rfl E d_X12_fillsPaired_94 ?_
    refine wa_iload 4 rfl E d_X12_fillsPaired_95 ?_
    refine wa_ishr E d_X12_fillsPaired_97 ?_
    refine wa_iconst 1 ic_1 E d_X12_fillsPaired_98 ?_
    refine wa_iand E d_X12_fillsPaired_99 ?_
    refine wa_if_ne E d_X12_fillsPaired_100 (fun c_6 => ?_) (fun c_6 => ?_)
    · replace h := kf_iff c_6 h
      exact b_X12_fillsPaired_124 E hty hrec50 hrec56 hrec80 v0 v1 v2 v3 v4 k_v0 σ h
    · replace h := kf_ift c_6 h
      refine wa_aload_n 0 rfl E d_X12_fillsPaired_103 ?_
      refine wa_iload_n 1 rfl E d_X12_fillsPaired_104 ?_
      refine wa_iload 4 rfl E d_X12_fillsPaired_105 ?_
      refine wa_iload_n 2 rfl E d_X12_fillsPaired_107 ?_
      obtain ⟨q_7, hq_7, h⟩ := kf_bd h
      refine wa_callV (st2 := [.int q_7.1]) (c_X12_with hty v0 v1 v4 v2 k_v0 σ hq_7) mv_X12_with ml_X12_439 k_v0 rfl (Nat.le_of_ble_eq_true rfl) rfl (Nat.le_of_ble_eq_true rfl) E d_X12_fillsPaired_108 rfl ?_
      refine wa_iload_n 3 rfl E d_X12_fillsPaired_111 ?_
      refine wa_icmp_ge E d_X12_fillsPaired_112 (fun c_8 => ?_) (fun c_8 => ?_)
      · replace h := kf_ift c_8 h
        exact b_X12_fillsPaired_124 E hty hrec50 hrec56 hrec80 v0 v1 v2 v3 v4 k_v0 q_7.2 h
      · replace h := kf_iff c_8 h
        refine wa_aload_n 0 rfl E d_X12_fillsPaired_115 ?_
        refine wa_iload_n 1 rfl E d_X12_fillsPaired_116 ?_
        refine wa_iload 4 rfl E d_X12_fillsPaired_117 ?_
        refine wa_iload_n 2 rfl E d_X12_fillsPaired_119 ?_
        obtain ⟨q_9, hq_9, h⟩ := kf_bd h
        refine wa_callV (st2 := [.int q_9.1]) (c_X12_with hty v0 v1 v4 v2 k_v0 q_7.2 hq_9) mv_X12_with ml_X12_439 k_v0 rfl (Nat.le_of_ble_eq_true rfl) rfl (Nat.le_of_ble_eq_true rfl) E d_X12_fillsPaired_120 rfl ?_
        refine wa_istore_n (lv' := [(3, .int q_9.1), (0, .ref (kf_ad G v0)), (1, .int v1), (2, .int v2), (4, .int v4)]) rfl (by decide) rfl E d_X12_fillsPaired_123 ?_
        refine wa_sub [1, 2, 3, 0, 4] rfl ?_
        exact b_X12_fillsPaired_124 E hty hrec50 hrec56 hrec80 v0 v1 v2 q_9.1 v4 k_v0 q_9.2 h
theorem b_X12_fillsPaired_80 {X : kf_X} {G : kf_G} {rec50 : Nat → Int32 → kf_St → Option kf_St} {rec56 : Nat → Int32 → Int32 → kf_St → Option kf_St} {q : kf_St} (E : kf_ok X G cX12_fillsPaired RX12 5 none (4)) (hty : kf_wt G) (hrec50 : ∀ (v0 : Nat) (v1 : Int32) (k_v0 : kf_kd G v0 = 13) (σ : kf_St), rec50 v0 v1 σ = some q → kf_WA X G 5 (kf_Q X G none q) 50 [(0, .ref (kf_ad G v0)), (1, .int v1)] [] σ) (hrec56 : ∀ (v0 : Nat) (v1 : Int32) (v2 : Int32) (k_v0 : kf_kd G v0 = 13) (σ : kf_St), rec56 v0 v1 v2 σ = some q → kf_WA X G 5 (kf_Q X G none q) 56 [(0, .ref (kf_ad G v0)), (1, .int v1), (2, .int v2)] [] σ) : ∀ (N : Nat) (v0 : Nat) (v1 : Int32) (v2 : Int32) (v3 : Int32) (v4 : Int32) (k_v0 : kf_kd G v0 = 13) (σ : kf_St) (_ : f_X12_fillsPaired_80 rec50 rec56 N v0 v1 v2 v3 v4 σ = some q), kf_WA X G 5 (kf_Q X G none q) 80 [(0, .ref (kf_ad G v0)), (1, .int v1), (2, .int v2), (3, .int v3), (4, .int v4)] [] σ
  | 0, _, _, _, _, _, _, _, h => by cases h
  | N + 1, v0, v1, v2, v3, v4, k_v0, σ, h => b_X12_fillsPaired_80_s _ E hty hrec50 hrec56 (b_X12_fillsPaired_80 E hty hrec50 hrec56 N) v0 v1 v2 v3 v4 k_v0 σ h
def f_X12_fillsPaired_56_s (rec50 : Nat → Int32 → kf_St → Option kf_St) (rec56 : Nat → Int32 → Int32 → kf_St → Option kf_St) (v0 : Nat) (v1 : Int32) (v2 : Int32) (σ : kf_St) : Option kf_St :=
  if 32 ≤ v2 then
    kf_lt (v1 + (-1)) fun v1_2 =>
    rec50 v0 v1_2 σ
  else
    if kf_ix (((32 * v1) + 32) + v2) (kf_ln (kf_rf v0 58)) = true then
    kf_lt ((σ.1 (kf_rf v0 58) (Int32.toNatClampNeg (((32 * v1) + 32) + v2)))) fun v3_4 =>
    f_X12_fillsPaired_80 rec50 rec56 kf_F v0 v1 v2 v3_4 0 σ
    else none
def f_X12_fillsPaired_56 (rec50 : Nat → Int32 → kf_St → Option kf_St) : Nat → Nat → Int32 → Int32 → kf_St → Option kf_St
  | 0, _, _, _, _ => none
  | n + 1, v0, v1, v2, σ => f_X12_fillsPaired_56_s rec50 (f_X12_fillsPaired_56 rec50 n) v0 v1 v2 σ
set_option maxRecDepth 100000 in
set_option maxHeartbeats 4000000 in
theorem b_X12_fillsPaired_56_s {X : kf_X} {G : kf_G} {rec50 : Nat → Int32 → kf_St → Option kf_St} (rec56 : Nat → Int32 → Int32 → kf_St → Option kf_St) {q : kf_St} (E : kf_ok X G cX12_fillsPaired RX12 5 none (4)) (hty : kf_wt G) (hrec50 : ∀ (v0 : Nat) (v1 : Int32) (k_v0 : kf_kd G v0 = 13) (σ : kf_St), rec50 v0 v1 σ = some q → kf_WA X G 5 (kf_Q X G none q) 50 [(0, .ref (kf_ad G v0)), (1, .int v1)] [] σ) (hrec56 : ∀ (v0 : Nat) (v1 : Int32) (v2 : Int32) (k_v0 : kf_kd G v0 = 13) (σ : kf_St), rec56 v0 v1 v2 σ = some q → kf_WA X G 5 (kf_Q X G none q) 56 [(0, .ref (kf_ad G v0)), (1, .int v1), (2, .int v2)] [] σ) (v0 : Nat) (v1 : Int32) (v2 : Int32) (k_v0 : kf_kd G v0 = 13) (σ : kf_St) (h : f_X12_fillsPaired_56_s rec50 rec56 v0 v1 v2 σ = some q) : kf_WA X G 5 (kf_Q X G none q) 56 [(0, .ref (kf_ad G v0)), (1, .int v1), (2, .int v2)] [] σ := by
  unfold f_X12_fillsPaired_56_s at h
  refine wa_iload_n 2 rfl E d_X12_fillsPaired_56 ?_
  refine wa_bipush 32 bp_32 E d_X12_fillsPaired_57 ?_
  refine wa_icmp_ge E d_X12_fillsPaired_59 (fun c_1 => ?_) (fun c_1 => ?_)
  · replace h := kf_ift c_1 h
    obtain ⟨v1_2, ev1_2, h⟩ := kf_lte h
    refine wa_iinc (lv' := [(1, .int v1_2), (0, .ref (kf_ad G v0)), (2, .int v2)]) v1_2 1 rfl (kf_inc ic_m1 ev1_2) (by decide) rfl E d_X12_fillsPaired_148 ?_
    refine wa_goto E d_X12_fillsPaired_151 ?_
    refine wa_sub [1, 0] rfl ?_
    exact hrec50 v0 v1_2 k_v0 σ h
  · replace h := kf_iff c_1 h
    refine wa_aload_n 0 rfl E d_X12_fillsPaired_62 ?_
    refine wa_getR fl_X12_131 k_v0 rfl E d_X12_fillsPaired_63 ?_
    refine wa_bipush 32 bp_32 E d_X12_fillsPaired_66 ?_
    refine wa_iload_n 1 rfl E d_X12_fillsPaired_68 ?_
    refine wa_imul E d_X12_fillsPaired_69 ?_
    refine wa_bipush 32 bp_32 E d_X12_fillsPaired_70 ?_
    refine wa_iadd E d_X12_fillsPaired_72 ?_
    refine wa_iload_n 2 rfl E d_X12_fillsPaired_73 ?_
    refine wa_iadd E d_X12_fillsPaired_74 ?_
    obtain ⟨g_3, h⟩ := kf_gd h
    refine wa_iald (kf_wtf hty 58 49 k_v0 (by decide) rfl) g_3 E d_X12_fillsPaired_75 ?_
    obtain ⟨v3_4, ev3_4, h⟩ := kf_lte h
    refine wa_topi ev3_4 ?_
    refine wa_istore_n (lv' := [(3, .int v3_4), (0, .ref (kf_ad G v0)), (1, .int v1), (2, .int v2)]) rfl (by decide) rfl E d_X12_fillsPaired_76 ?_
    refine wa_iconst 0 ic_0 E d_X12_fillsPaired_77 ?_
    refine wa_istore (lv' := [(4, .int 0), (3, .int v3_4), (0, .ref (kf_ad G v0)), (1, .int v1), (2, .int v2)]) (by decide) rfl E d_X12_fillsPaired_78 ?_
    refine wa_sub [2, 3, 4, 1, 0] rfl ?_
    exact b_X12_fillsPaired_80 E hty hrec50 hrec56 kf_F v0 v1 v2 v3_4 0 k_v0 σ h
theorem b_X12_fillsPaired_56 {X : kf_X} {G : kf_G} {rec50 : Nat → Int32 → kf_St → Option kf_St} {q : kf_St} (E : kf_ok X G cX12_fillsPaired RX12 5 none (4)) (hty : kf_wt G) (hrec50 : ∀ (v0 : Nat) (v1 : Int32) (k_v0 : kf_kd G v0 = 13) (σ : kf_St), rec50 v0 v1 σ = some q → kf_WA X G 5 (kf_Q X G none q) 50 [(0, .ref (kf_ad G v0)), (1, .int v1)] [] σ) : ∀ (N : Nat) (v0 : Nat) (v1 : Int32) (v2 : Int32) (k_v0 : kf_kd G v0 = 13) (σ : kf_St) (_ : f_X12_fillsPaired_56 rec50 N v0 v1 v2 σ = some q), kf_WA X G 5 (kf_Q X G none q) 56 [(0, .ref (kf_ad G v0)), (1, .int v1), (2, .int v2)] [] σ
  | 0, _, _, _, _, _, h => by cases h
  | N + 1, v0, v1, v2, k_v0, σ, h => b_X12_fillsPaired_56_s _ E hty hrec50 (b_X12_fillsPaired_56 E hty hrec50 N) v0 v1 v2 k_v0 σ h
def f_X12_fillsPaired_50_s (rec50 : Nat → Int32 → kf_St → Option kf_St) (v0 : Nat) (v1 : Int32) (σ : kf_St) : Option kf_St :=
  if v1 < 0 then
    some σ
  else
    f_X12_fillsPaired_56 rec50 kf_F v0 v1 0 σ
def f_X12_fillsPaired_50 : Nat → Nat → Int32 → kf_St → Option kf_St
  | 0, _, _, _ => none
  | n + 1, v0, v1, σ => f_X12_fillsPaired_50_s (f_X12_fillsPaired_50 n) v0 v1 σ
set_option maxRecDepth 100000 in
set_option maxHeartbeats 4000000 in
theorem b_X12_fillsPaired_50_s {X : kf_X} {G : kf_G} (rec50 : Nat → Int32 → kf_St → Option kf_St) {q : kf_St} (E : kf_ok X G cX12_fillsPaired RX12 5 none (4)) (hty : kf_wt G) (hrec50 : ∀ (v0 : Nat) (v1 : Int32) (k_v0 : kf_kd G v0 = 13) (σ : kf_St), rec50 v0 v1 σ = some q → kf_WA X G 5 (kf_Q X G none q) 50 [(0, .ref (kf_ad G v0)), (1, .int v1)] [] σ) (v0 : Nat) (v1 : Int32) (k_v0 : kf_kd G v0 = 13) (σ : kf_St) (h : f_X12_fillsPaired_50_s rec50 v0 v1 σ = some q) : kf_WA X G 5 (kf_Q X G none q) 50 [(0, .ref (kf_ad G v0)), (1, .int v1)] [] σ := by
  unfold f_X12_fillsPaired_50_s at h
  refine wa_iload_n 1 rfl E d_X12_fillsPaired_50 ?_
  refine wa_if_lt E d_X12_fillsPaired_51 (fun c_1 => ?_) (fun c_1 => ?_)
  · replace h := kf_ift c_1 h
    cases h
    exact wa_vret E d_X12_fillsPaired_154
  · replace h := kf_iff c_1 h
    refine wa_iconst 0 ic_0 E d_X12_fillsPaired_54 ?_
    refine wa_istore_n (lv' := [(2, .int 0), (0, .ref (kf_ad G v0)), (1, .int v1)]) rfl (by decide) rfl E d_X12_fillsPaired_55 ?_
    refine wa_sub [1, 2, 0] rfl ?_
    exact b_X12_fillsPaired_56 E hty hrec50 kf_F v0 v1 0 k_v0 σ h
theorem b_X12_fillsPaired_50 {X : kf_X} {G : kf_G} {q : kf_St} (E : kf_ok X G cX12_fillsPaired RX12 5 none (4)) (hty : kf_wt G) : ∀ (N : Nat) (v0 : Nat) (v1 : Int32) (k_v0 : kf_kd G v0 = 13) (σ : kf_St) (_ : f_X12_fillsPaired_50 N v0 v1 σ = some q), kf_WA X G 5 (kf_Q X G none q) 50 [(0, .ref (kf_ad G v0)), (1, .int v1)] [] σ
  | 0, _, _, _, _, h => by cases h
  | N + 1, v0, v1, k_v0, σ, h => b_X12_fillsPaired_50_s _ E hty (b_X12_fillsPaired_50 E hty N) v0 v1 k_v0 σ h
def f_X12_fillsPaired_6_s (rec6 : Nat → Int32 → kf_St → Option kf_St) (v0 : Nat) (v1 : Int32) (σ : kf_St) : Option kf_St :=
  if 32 ≤ v1 then
    if kf_ix (σ.1 v0 18) (kf_ln (kf_rf v0 23)) = true then
    kf_lt (((σ.1 (kf_rf v0 23) (Int32.toNatClampNeg (σ.1 v0 18))) - 1)) fun v1_3 =>
    f_X12_fillsPaired_50 kf_F v0 v1_3 σ
    else none
  else
    if kf_ix (σ.1 v0 18) (kf_ln (kf_rf v0 23)) = true then
    if kf_ix ((32 * (σ.1 (kf_rf v0 23) (Int32.toNatClampNeg (σ.1 v0 18)))) + v1) (kf_ln (kf_rf v0 58)) = true then
    kf_lt (kf_wi σ (kf_rf v0 58) (Int32.toNatClampNeg ((32 * (σ.1 (kf_rf v0 23) (Int32.toNatClampNeg (σ.1 v0 18)))) + v1)) 0) fun σ_6 =>
    kf_lt (v1 + 1) fun v1_7 =>
    rec6 v0 v1_7 σ_6
    else none
    else none
def f_X12_fillsPaired_6 : Nat → Nat → Int32 → kf_St → Option kf_St
  | 0, _, _, _ => none
  | n + 1, v0, v1, σ => f_X12_fillsPaired_6_s (f_X12_fillsPaired_6 n) v0 v1 σ
set_option maxRecDepth 100000 in
set_option maxHeartbeats 4000000 in
theorem b_X12_fillsPaired_6_s {X : kf_X} {G : kf_G} (rec6 : Nat → Int32 → kf_St → Option kf_St) {q : kf_St} (E : kf_ok X G cX12_fillsPaired RX12 5 none (4)) (hty : kf_wt G) (hrec6 : ∀ (v0 : Nat) (v1 : Int32) (k_v0 : kf_kd G v0 = 13) (σ : kf_St), rec6 v0 v1 σ = some q → kf_WA X G 5 (kf_Q X G none q) 6 [(0, .ref (kf_ad G v0)), (1, .int v1)] [] σ) (v0 : Nat) (v1 : Int32) (k_v0 : kf_kd G v0 = 13) (σ : kf_St) (h : f_X12_fillsPaired_6_s rec6 v0 v1 σ = some q) : kf_WA X G 5 (kf_Q X G none q) 6 [(0, .ref (kf_ad G v0)), (1, .int v1)] [] σ := by
  unfold f_X12_fillsPaired_6_s at h
  refine wa_iload_n 1 rfl E d_X12_fillsPaired_6 ?_
  refine wa_bipush 32 bp_32 E d_X12_fillsPaired_7 ?_
  refine wa_icmp_ge E d_X12_fillsPaired_9 (fun c_1 => ?_) (fun c_1 => ?_)
  · replace h := kf_ift c_1 h
    refine wa_aload_n 0 rfl E d_X12_fillsPaired_38 ?_
    refine wa_getR fl_X12_46 k_v0 rfl E d_X12_fillsPaired_39 ?_
    refine wa_aload_n 0 rfl E d_X12_fillsPaired_42 ?_
    refine wa_getI fl_X12_233 k_v0 rfl E d_X12_fillsPaired_43 ?_
    obtain ⟨g_2, h⟩ := kf_gd h
    refine wa_iald (kf_wtf hty 23 49 k_v0 (by decide) rfl) g_2 E d_X12_fillsPaired_46 ?_
    refine wa_iconst 1 ic_1 E d_X12_fillsPaired_47 ?_
    refine wa_isub E d_X12_fillsPaired_48 ?_
    obtain ⟨v1_3, ev1_3, h⟩ := kf_lte h
    refine wa_topi ev1_3 ?_
    refine wa_istore_n (lv' := [(1, .int v1_3), (0, .ref (kf_ad G v0))]) rfl (by decide) rfl E d_X12_fillsPaired_49 ?_
    refine wa_sub [1, 0] rfl ?_
    exact b_X12_fillsPaired_50 E hty kf_F v0 v1_3 k_v0 σ h
  · replace h := kf_iff c_1 h
    refine wa_aload_n 0 rfl E d_X12_fillsPaired_12 ?_
    refine wa_getR fl_X12_131 k_v0 rfl E d_X12_fillsPaired_13 ?_
    refine wa_bipush 32 bp_32 E d_X12_fillsPaired_16 ?_
    refine wa_aload_n 0 rfl E d_X12_fillsPaired_18 ?_
    refine wa_getR fl_X12_46 k_v0 rfl E d_X12_fillsPaired_19 ?_
    refine wa_aload_n 0 rfl E d_X12_fillsPaired_22 ?_
    refine wa_getI fl_X12_233 k_v0 rfl E d_X12_fillsPaired_23 ?_
    obtain ⟨g_4, h⟩ := kf_gd h
    refine wa_iald (kf_wtf hty 23 49 k_v0 (by decide) rfl) g_4 E d_X12_fillsPaired_26 ?_
    refine wa_imul E d_X12_fillsPaired_27 ?_
    refine wa_iload_n 1 rfl E d_X12_fillsPaired_28 ?_
    refine wa_iadd E d_X12_fillsPaired_29 ?_
    refine wa_iconst 0 ic_0 E d_X12_fillsPaired_30 ?_
    obtain ⟨g_5, h⟩ := kf_gd h
    obtain ⟨σ_6, eσ_6, h⟩ := kf_lte h
    refine wa_iast (kf_wtf hty 58 49 k_v0 (by decide) rfl) g_5 E d_X12_fillsPaired_31 eσ_6 ?_
    obtain ⟨v1_7, ev1_7, h⟩ := kf_lte h
    refine wa_iinc (lv' := [(1, .int v1_7), (0, .ref (kf_ad G v0))]) v1_7 1 rfl (kf_inc ic_1 ev1_7) (by decide) rfl E d_X12_fillsPaired_32 ?_
    refine wa_goto E d_X12_fillsPaired_35 ?_
    refine wa_sub [1, 0] rfl ?_
    exact hrec6 v0 v1_7 k_v0 σ_6 h
theorem b_X12_fillsPaired_6 {X : kf_X} {G : kf_G} {q : kf_St} (E : kf_ok X G cX12_fillsPaired RX12 5 none (4)) (hty : kf_wt G) : ∀ (N : Nat) (v0 : Nat) (v1 : Int32) (k_v0 : kf_kd G v0 = 13) (σ : kf_St) (_ : f_X12_fillsPaired_6 N v0 v1 σ = some q), kf_WA X G 5 (kf_Q X G none q) 6 [(0, .ref (kf_ad G v0)), (1, .int v1)] [] σ
  | 0, _, _, _, _, h => by cases h
  | N + 1, v0, v1, k_v0, σ, h => b_X12_fillsPaired_6_s _ E hty (b_X12_fillsPaired_6 E hty N) v0 v1 k_v0 σ h
def f_X12_fillsPaired (v0 : Nat) (σ : kf_St) : Option kf_St :=
  (f_X12_copies v0 σ).bind fun q_1 =>
  f_X12_fillsPaired_6 kf_F v0 0 q_1
set_option maxRecDepth 100000 in
set_option maxHeartbeats 4000000 in
theorem c_X12_fillsPaired {G : kf_G} (hty : kf_wt G) (v0 : Nat) (k_v0 : kf_kd G v0 = 13) (σ : kf_St) {q : kf_St} (h : f_X12_fillsPaired v0 σ = some q) : kf_Ct (4) yX12_fillsPaired cX12_fillsPaired 5 none G [.ref (kf_ad G v0)] σ none q := by
  refine kf_Ct.of hty.1 (lv := [(0, .ref (kf_ad G v0))]) (by decide +kernel) rfl (Nat.le_of_ble_eq_true rfl) (fun X E => ?_)
  unfold f_X12_fillsPaired at h
  refine wa_aload_n 0 rfl E d_X12_fillsPaired_0 ?_
  obtain ⟨q_1, hq_1, h⟩ := kf_bd h
  refine wa_callV (st2 := []) (c_X12_copies hty v0 k_v0 σ hq_1) mv_X12_copies ml_X12_323 k_v0 rfl (Nat.le_of_ble_eq_true rfl) rfl (Nat.le_of_ble_eq_true rfl) E d_X12_fillsPaired_1 rfl ?_
  refine wa_iconst 0 ic_0 E d_X12_fillsPaired_4 ?_
  refine wa_istore_n (lv' := [(1, .int 0), (0, .ref (kf_ad G v0))]) rfl (by decide) rfl E d_X12_fillsPaired_5 ?_
  refine wa_sub [1, 0] rfl ?_
  exact b_X12_fillsPaired_6 E hty kf_F v0 0 k_v0 q_1 h
/-! X12_lowestFor -/
theorem d_X12_lowestFor_0 : kf_dq cX12_lowestFor 0 1 1 (.iconst 0) := ⟨by decide +kernel, rfl⟩
theorem d_X12_lowestFor_1 : kf_dq cX12_lowestFor 1 2 1 (.istore_n 3) := ⟨by decide +kernel, rfl⟩
theorem d_X12_lowestFor_2 : kf_dq cX12_lowestFor 2 3 1 (.iload_n 3) := ⟨by decide +kernel, rfl⟩
theorem d_X12_lowestFor_3 : kf_dq cX12_lowestFor 3 4 1 (.aload_n 0) := ⟨by decide +kernel, rfl⟩
theorem d_X12_lowestFor_4 : kf_dq cX12_lowestFor 4 7 3 (.getfield 52) := ⟨by decide +kernel, rfl⟩
theorem d_X12_lowestFor_7 : kf_dq cX12_lowestFor 7 8 1 (.aload_n 0) := ⟨by decide +kernel, rfl⟩
theorem d_X12_lowestFor_8 : kf_dq cX12_lowestFor 8 11 3 (.getfield 233) := ⟨by decide +kernel, rfl⟩
theorem d_X12_lowestFor_11 : kf_dq cX12_lowestFor 11 12 1 (.iaload) := ⟨by decide +kernel, rfl⟩
theorem d_X12_lowestFor_12 : kf_dj cX12_lowestFor 12 15 52 (.if_icmp .ge) := ⟨40, by decide +kernel, rfl, by decide⟩
theorem d_X12_lowestFor_15 : kf_dq cX12_lowestFor 15 16 1 (.iload_n 2) := ⟨by decide +kernel, rfl⟩
theorem d_X12_lowestFor_16 : kf_dq cX12_lowestFor 16 17 1 (.iload_n 3) := ⟨by decide +kernel, rfl⟩
theorem d_X12_lowestFor_17 : kf_dq cX12_lowestFor 17 18 1 (.ishr) := ⟨by decide +kernel, rfl⟩
theorem d_X12_lowestFor_18 : kf_dq cX12_lowestFor 18 19 1 (.iconst 1) := ⟨by decide +kernel, rfl⟩
theorem d_X12_lowestFor_19 : kf_dq cX12_lowestFor 19 20 1 (.iand) := ⟨by decide +kernel, rfl⟩
theorem d_X12_lowestFor_20 : kf_dj cX12_lowestFor 20 23 46 (.ifCond .ne) := ⟨26, by decide +kernel, rfl, by decide⟩
theorem d_X12_lowestFor_23 : kf_dq cX12_lowestFor 23 24 1 (.aload_n 0) := ⟨by decide +kernel, rfl⟩
theorem d_X12_lowestFor_24 : kf_dq cX12_lowestFor 24 25 1 (.iload_n 1) := ⟨by decide +kernel, rfl⟩
theorem d_X12_lowestFor_25 : kf_dq cX12_lowestFor 25 26 1 (.iload_n 3) := ⟨by decide +kernel, rfl⟩
theorem d_X12_lowestFor_26 : kf_dq cX12_lowestFor 26 27 1 (.iload_n 2) := ⟨by decide +kernel, rfl⟩
theorem d_X12_lowestFor_27 : kf_dq cX12_lowestFor 27 30 3 (.invokevirtual 439) := ⟨by decide +kernel, rfl⟩
theorem d_X12_lowestFor_30 : kf_dq cX12_lowestFor 30 31 1 (.aload_n 0) := ⟨by decide +kernel, rfl⟩
theorem d_X12_lowestFor_31 : kf_dq cX12_lowestFor 31 34 3 (.getfield 131) := ⟨by decide +kernel, rfl⟩
theorem d_X12_lowestFor_34 : kf_dq cX12_lowestFor 34 36 2 (.bipush 32) := ⟨by decide +kernel, rfl⟩
theorem d_X12_lowestFor_36 : kf_dq cX12_lowestFor 36 37 1 (.iload_n 1) := ⟨by decide +kernel, rfl⟩
theorem d_X12_lowestFor_37 : kf_dq cX12_lowestFor 37 38 1 (.imul) := ⟨by decide +kernel, rfl⟩
theorem d_X12_lowestFor_38 : kf_dq cX12_lowestFor 38 39 1 (.iload_n 2) := ⟨by decide +kernel, rfl⟩
theorem d_X12_lowestFor_39 : kf_dq cX12_lowestFor 39 40 1 (.iadd) := ⟨by decide +kernel, rfl⟩
theorem d_X12_lowestFor_40 : kf_dq cX12_lowestFor 40 41 1 (.iaload) := ⟨by decide +kernel, rfl⟩
theorem d_X12_lowestFor_41 : kf_dj cX12_lowestFor 41 44 46 (.if_icmp .ne) := ⟨5, by decide +kernel, rfl, by decide⟩
theorem d_X12_lowestFor_44 : kf_dq cX12_lowestFor 44 45 1 (.iload_n 3) := ⟨by decide +kernel, rfl⟩
theorem d_X12_lowestFor_45 : kf_dq cX12_lowestFor 45 46 1 (.ireturn) := ⟨by decide +kernel, rfl⟩
theorem d_X12_lowestFor_46 : kf_dq cX12_lowestFor 46 49 3 (.iinc 3 1) := ⟨by decide +kernel, rfl⟩
theorem d_X12_lowestFor_49 : kf_dj cX12_lowestFor 49 52 2 .goto := ⟨(-47), by decide +kernel, rfl, by decide⟩
theorem d_X12_lowestFor_52 : kf_dq cX12_lowestFor 52 54 2 (.bipush (-2)) := ⟨by decide +kernel, rfl⟩
theorem d_X12_lowestFor_54 : kf_dq cX12_lowestFor 54 55 1 (.ireturn) := ⟨by decide +kernel, rfl⟩
def f_X12_lowestFor_46 (rec2 : Nat → Int32 → Int32 → Int32 → kf_St → Option (Int32 × kf_St)) (v0 : Nat) (v1 : Int32) (v2 : Int32) (v3 : Int32) (σ : kf_St) : Option (Int32 × kf_St) :=
  kf_lt (v3 + 1) fun v3_1 =>
  rec2 v0 v1 v2 v3_1 σ
set_option maxRecDepth 100000 in
set_option maxHeartbeats 4000000 in
theorem b_X12_lowestFor_46 {X : kf_X} {G : kf_G} {rec2 : Nat → Int32 → Int32 → Int32 → kf_St → Option (Int32 × kf_St)} {q : (Int32 × kf_St)} (E : kf_ok X G cX12_lowestFor RX12 4 (some .int) (4)) (hty : kf_wt G) (hrec2 : ∀ (v0 : Nat) (v1 : Int32) (v2 : Int32) (v3 : Int32) (k_v0 : kf_kd G v0 = 13) (σ : kf_St), rec2 v0 v1 v2 v3 σ = some q → kf_WA X G 4 (kf_Q X G (some (.int q.1)) q.2) 2 [(0, .ref (kf_ad G v0)), (1, .int v1), (2, .int v2), (3, .int v3)] [] σ) (v0 : Nat) (v1 : Int32) (v2 : Int32) (v3 : Int32) (k_v0 : kf_kd G v0 = 13) (σ : kf_St) (h : f_X12_lowestFor_46 rec2 v0 v1 v2 v3 σ = some q) : kf_WA X G 4 (kf_Q X G (some (.int q.1)) q.2) 46 [(0, .ref (kf_ad G v0)), (1, .int v1), (2, .int v2), (3, .int v3)] [] σ := by
  unfold f_X12_lowestFor_46 at h
  obtain ⟨v3_1, ev3_1, h⟩ := kf_lte h
  refine wa_iinc (lv' := [(3, .int v3_1), (0, .ref (kf_ad G v0)), (1, .int v1), (2, .int v2)]) v3_1 3 rfl (kf_inc ic_1 ev3_1) (by decide) rfl E d_X12_lowestFor_46 ?_
  refine wa_goto E d_X12_lowestFor_49 ?_
  refine wa_sub [1, 2, 3, 0] rfl ?_
  exact hrec2 v0 v1 v2 v3_1 k_v0 σ h
def f_X12_lowestFor_2_s (rec2 : Nat → Int32 → Int32 → Int32 → kf_St → Option (Int32 × kf_St)) (v0 : Nat) (v1 : Int32) (v2 : Int32) (v3 : Int32) (σ : kf_St) : Option (Int32 × kf_St) :=
  if kf_ix (σ.1 v0 18) (kf_ln (kf_rf v0 25)) = true then
  if (σ.1 (kf_rf v0 25) (Int32.toNatClampNeg (σ.1 v0 18))) ≤ v3 then
    some ((-2), σ)
  else
    if ((v2 >>> (v3 &&& 31)) &&& 1) = 0 then
      (f_X12_with v0 v1 v3 v2 σ).bind fun q_4 =>
      if kf_ix ((32 * v1) + v2) (kf_ln (kf_rf v0 58)) = true then
      if q_4.1 = (q_4.2.1 (kf_rf v0 58) (Int32.toNatClampNeg ((32 * v1) + v2))) then
        some (v3, q_4.2)
      else
        f_X12_lowestFor_46 rec2 v0 v1 v2 v3 q_4.2
      else none
    else
      f_X12_lowestFor_46 rec2 v0 v1 v2 v3 σ
  else none
def f_X12_lowestFor_2 : Nat → Nat → Int32 → Int32 → Int32 → kf_St → Option (Int32 × kf_St)
  | 0, _, _, _, _, _ => none
  | n + 1, v0, v1, v2, v3, σ => f_X12_lowestFor_2_s (f_X12_lowestFor_2 n) v0 v1 v2 v3 σ
set_option maxRecDepth 100000 in
set_option maxHeartbeats 4000000 in
theorem b_X12_lowestFor_2_s {X : kf_X} {G : kf_G} (rec2 : Nat → Int32 → Int32 → Int32 → kf_St → Option (Int32 × kf_St)) {q : (Int32 × kf_St)} (E : kf_ok X G cX12_lowestFor RX12 4 (some .int) (4)) (hty : kf_wt G) (hrec2 : ∀ (v0 : Nat) (v1 : Int32) (v2 : Int32) (v3 : Int32) (k_v0 : kf_kd G v0 = 13) (σ : kf_St), rec2 v0 v1 v2 v3 σ = some q → kf_WA X G 4 (kf_Q X G (some (.int q.1)) q.2) 2 [(0, .ref (kf_ad G v0)), (1, .int v1), (2, .int v2), (3, .int v3)] [] σ) (v0 : Nat) (v1 : Int32) (v2 : Int32) (v3 : Int32) (k_v0 : kf_kd G v0 = 13) (σ : kf_St) (h : f_X12_lowestFor_2_s rec2 v0 v1 v2 v3 σ = some q) : kf_WA X G 4 (kf_Q X G (some (.int q.1)) q.2) 2 [(0, .ref (kf_ad G v0)), (1, .int v1), (2, .int v2), (3, .int v3)] [] σ := by
  unfold f_X12_lowestFor_2_s at h
  refine wa_iload_n 3 rfl E d_X12_lowestFor_2 ?_
  refine wa_aload_n 0 rfl E d_X12_lowestFor_3 ?_
  refine wa_getR fl_X12_52 k_v0 rfl E d_X12_lowestFor_4 ?_
  refine wa_aload_n 0 rfl E d_X12_lowestFor_7 ?_
  refine wa_getI fl_X12_233 k_v0 rfl E d_X12_lowestFor_8 ?_
  obtain ⟨g_1, h⟩ := kf_gd h
  refine wa_iald (kf_wtf hty 25 49 k_v0 (by decide) rfl) g_1 E d_X12_lowestFor_11 ?_
  refine wa_icmp_ge E d_X12_lowestFor_12 (fun c_2 => ?_) (fun c_2 => ?_)
  · replace h := kf_ift c_2 h
    refine wa_bipush (-2) bp_m2 E d_X12_lowestFor_52 ?_
    cases h
    exact wa_iret E d_X12_lowestFor_54
  · replace h := kf_iff c_2 h
    refine wa_iload_n 2 rfl E d_X12_lowestFor_15 ?_
    refine wa_iload_n 3 rfl E d_X12_lowestFor_16 ?_
    refine wa_ishr E d_X12_lowestFor_17 ?_
    refine wa_iconst 1 ic_1 E d_X12_lowestFor_18 ?_
    refine wa_iand E d_X12_lowestFor_19 ?_
    refine wa_if_ne E d_X12_lowestFor_20 (fun c_3 => ?_) (fun c_3 => ?_)
    · replace h := kf_iff c_3 h
      exact b_X12_lowestFor_46 E hty hrec2 v0 v1 v2 v3 k_v0 σ h
    · replace h := kf_ift c_3 h
      refine wa_aload_n 0 rfl E d_X12_lowestFor_23 ?_
      refine wa_iload_n 1 rfl E d_X12_lowestFor_24 ?_
      refine wa_iload_n 3 rfl E d_X12_lowestFor_25 ?_
      refine wa_iload_n 2 rfl E d_X12_lowestFor_26 ?_
      obtain ⟨q_4, hq_4, h⟩ := kf_bd h
      refine wa_callV (st2 := [.int q_4.1]) (c_X12_with hty v0 v1 v3 v2 k_v0 σ hq_4) mv_X12_with ml_X12_439 k_v0 rfl (Nat.le_of_ble_eq_true rfl) rfl (Nat.le_of_ble_eq_true rfl) E d_X12_lowestFor_27 rfl ?_
      refine wa_aload_n 0 rfl E d_X12_lowestFor_30 ?_
      refine wa_getR fl_X12_131 k_v0 rfl E d_X12_lowestFor_31 ?_
      refine wa_bipush 32 bp_32 E d_X12_lowestFor_34 ?_
      refine wa_iload_n 1 rfl E d_X12_lowestFor_36 ?_
      refine wa_imul E d_X12_lowestFor_37 ?_
      refine wa_iload_n 2 rfl E d_X12_lowestFor_38 ?_
      refine wa_iadd E d_X12_lowestFor_39 ?_
      obtain ⟨g_5, h⟩ := kf_gd h
      refine wa_iald (kf_wtf hty 58 49 k_v0 (by decide) rfl) g_5 E d_X12_lowestFor_40 ?_
      refine wa_icmp_ne E d_X12_lowestFor_41 (fun c_6 => ?_) (fun c_6 => ?_)
      · replace h := kf_iff c_6 h
        exact b_X12_lowestFor_46 E hty hrec2 v0 v1 v2 v3 k_v0 q_4.2 h
      · replace h := kf_ift c_6 h
        refine wa_iload_n 3 rfl E d_X12_lowestFor_44 ?_
        cases h
        exact wa_iret E d_X12_lowestFor_45
theorem b_X12_lowestFor_2 {X : kf_X} {G : kf_G} {q : (Int32 × kf_St)} (E : kf_ok X G cX12_lowestFor RX12 4 (some .int) (4)) (hty : kf_wt G) : ∀ (N : Nat) (v0 : Nat) (v1 : Int32) (v2 : Int32) (v3 : Int32) (k_v0 : kf_kd G v0 = 13) (σ : kf_St) (_ : f_X12_lowestFor_2 N v0 v1 v2 v3 σ = some q), kf_WA X G 4 (kf_Q X G (some (.int q.1)) q.2) 2 [(0, .ref (kf_ad G v0)), (1, .int v1), (2, .int v2), (3, .int v3)] [] σ
  | 0, _, _, _, _, _, _, h => by cases h
  | N + 1, v0, v1, v2, v3, k_v0, σ, h => b_X12_lowestFor_2_s _ E hty (b_X12_lowestFor_2 E hty N) v0 v1 v2 v3 k_v0 σ h
def f_X12_lowestFor (v0 : Nat) (v1 : Int32) (v2 : Int32) (σ : kf_St) : Option (Int32 × kf_St) :=
  f_X12_lowestFor_2 kf_F v0 v1 v2 0 σ
set_option maxRecDepth 100000 in
set_option maxHeartbeats 4000000 in
theorem c_X12_lowestFor {G : kf_G} (hty : kf_wt G) (v0 : Nat) (v1 : Int32) (v2 : Int32) (k_v0 : kf_kd G v0 = 13) (σ : kf_St) {q : (Int32 × kf_St)} (h : f_X12_lowestFor v0 v1 v2 σ = some q) : kf_Ct (4) yX12_lowestFor cX12_lowestFor 4 (some .int) G [.ref (kf_ad G v0), .int v1, .int v2] σ (some (.int q.1)) q.2 := by
  refine kf_Ct.of hty.1 (lv := [(0, .ref (kf_ad G v0)), (1, .int v1), (2, .int v2)]) (by decide +kernel) rfl (Nat.le_of_ble_eq_true rfl) (fun X E => ?_)
  unfold f_X12_lowestFor at h
  refine wa_iconst 0 ic_0 E d_X12_lowestFor_0 ?_
  refine wa_istore_n (lv' := [(3, .int 0), (0, .ref (kf_ad G v0)), (1, .int v1), (2, .int v2)]) rfl (by decide) rfl E d_X12_lowestFor_1 ?_
  refine wa_sub [1, 2, 3, 0] rfl ?_
  exact b_X12_lowestFor_2 E hty kf_F v0 v1 v2 0 k_v0 σ h
/-! X12_paired -/
theorem d_X12_paired_0 : kf_dq cX12_paired 0 1 1 (.iload_n 1) := ⟨by decide +kernel, rfl⟩
theorem d_X12_paired_1 : kf_dq cX12_paired 1 2 1 (.iconst (-1)) := ⟨by decide +kernel, rfl⟩
theorem d_X12_paired_2 : kf_dj cX12_paired 2 5 15 (.if_icmp .eq) := ⟨13, by decide +kernel, rfl, by decide⟩
theorem d_X12_paired_5 : kf_dq cX12_paired 5 6 1 (.aload_n 0) := ⟨by decide +kernel, rfl⟩
theorem d_X12_paired_6 : kf_dq cX12_paired 6 7 1 (.iload_n 1) := ⟨by decide +kernel, rfl⟩
theorem d_X12_paired_7 : kf_dq cX12_paired 7 10 3 (.invokevirtual 387) := ⟨by decide +kernel, rfl⟩
theorem d_X12_paired_10 : kf_dj cX12_paired 10 13 15 (.ifCond .ne) := ⟨5, by decide +kernel, rfl, by decide⟩
theorem d_X12_paired_13 : kf_dq cX12_paired 13 14 1 (.iconst (-1)) := ⟨by decide +kernel, rfl⟩
theorem d_X12_paired_14 : kf_dq cX12_paired 14 15 1 (.ireturn) := ⟨by decide +kernel, rfl⟩
theorem d_X12_paired_15 : kf_dq cX12_paired 15 16 1 (.aload_n 0) := ⟨by decide +kernel, rfl⟩
theorem d_X12_paired_16 : kf_dq cX12_paired 16 19 3 (.invokevirtual 442) := ⟨by decide +kernel, rfl⟩
theorem d_X12_paired_19 : kf_dq cX12_paired 19 20 1 (.aload_n 0) := ⟨by decide +kernel, rfl⟩
theorem d_X12_paired_20 : kf_dq cX12_paired 20 23 3 (.getfield 46) := ⟨by decide +kernel, rfl⟩
theorem d_X12_paired_23 : kf_dq cX12_paired 23 24 1 (.aload_n 0) := ⟨by decide +kernel, rfl⟩
theorem d_X12_paired_24 : kf_dq cX12_paired 24 27 3 (.getfield 233) := ⟨by decide +kernel, rfl⟩
theorem d_X12_paired_27 : kf_dq cX12_paired 27 28 1 (.iaload) := ⟨by decide +kernel, rfl⟩
theorem d_X12_paired_28 : kf_dq cX12_paired 28 29 1 (.aload_n 0) := ⟨by decide +kernel, rfl⟩
theorem d_X12_paired_29 : kf_dq cX12_paired 29 32 3 (.getfield 52) := ⟨by decide +kernel, rfl⟩
theorem d_X12_paired_32 : kf_dq cX12_paired 32 33 1 (.aload_n 0) := ⟨by decide +kernel, rfl⟩
theorem d_X12_paired_33 : kf_dq cX12_paired 33 36 3 (.getfield 233) := ⟨by decide +kernel, rfl⟩
theorem d_X12_paired_36 : kf_dq cX12_paired 36 37 1 (.iaload) := ⟨by decide +kernel, rfl⟩
theorem d_X12_paired_37 : kf_dj cX12_paired 37 40 52 (.if_icmp .ge) := ⟨15, by decide +kernel, rfl, by decide⟩
theorem d_X12_paired_40 : kf_dq cX12_paired 40 41 1 (.aload_n 0) := ⟨by decide +kernel, rfl⟩
theorem d_X12_paired_41 : kf_dq cX12_paired 41 44 3 (.getfield 46) := ⟨by decide +kernel, rfl⟩
theorem d_X12_paired_44 : kf_dq cX12_paired 44 45 1 (.aload_n 0) := ⟨by decide +kernel, rfl⟩
theorem d_X12_paired_45 : kf_dq cX12_paired 45 48 3 (.getfield 233) := ⟨by decide +kernel, rfl⟩
theorem d_X12_paired_48 : kf_dq cX12_paired 48 49 1 (.iaload) := ⟨by decide +kernel, rfl⟩
theorem d_X12_paired_49 : kf_dj cX12_paired 49 52 61 .goto := ⟨12, by decide +kernel, rfl, by decide⟩
theorem d_X12_paired_52 : kf_dq cX12_paired 52 53 1 (.aload_n 0) := ⟨by decide +kernel, rfl⟩
theorem d_X12_paired_53 : kf_dq cX12_paired 53 56 3 (.getfield 52) := ⟨by decide +kernel, rfl⟩
theorem d_X12_paired_56 : kf_dq cX12_paired 56 57 1 (.aload_n 0) := ⟨by decide +kernel, rfl⟩
theorem d_X12_paired_57 : kf_dq cX12_paired 57 60 3 (.getfield 233) := ⟨by decide +kernel, rfl⟩
theorem d_X12_paired_60 : kf_dq cX12_paired 60 61 1 (.iaload) := ⟨by decide +kernel, rfl⟩
theorem d_X12_paired_61 : kf_dq cX12_paired 61 62 1 (.istore_n 2) := ⟨by decide +kernel, rfl⟩
theorem d_X12_paired_62 : kf_dq cX12_paired 62 63 1 (.iload_n 1) := ⟨by decide +kernel, rfl⟩
theorem d_X12_paired_63 : kf_dq cX12_paired 63 64 1 (.iconst (-1)) := ⟨by decide +kernel, rfl⟩
theorem d_X12_paired_64 : kf_dj cX12_paired 64 67 80 (.if_icmp .ne) := ⟨16, by decide +kernel, rfl, by decide⟩
theorem d_X12_paired_67 : kf_dq cX12_paired 67 68 1 (.aload_n 0) := ⟨by decide +kernel, rfl⟩
theorem d_X12_paired_68 : kf_dq cX12_paired 68 71 3 (.getfield 131) := ⟨by decide +kernel, rfl⟩
theorem d_X12_paired_71 : kf_dq cX12_paired 71 72 1 (.iconst 0) := ⟨by decide +kernel, rfl⟩
theorem d_X12_paired_72 : kf_dq cX12_paired 72 73 1 (.iaload) := ⟨by decide +kernel, rfl⟩
theorem d_X12_paired_73 : kf_dq cX12_paired 73 76 3 (.sipush 10000) := ⟨by decide +kernel, rfl⟩
theorem d_X12_paired_76 : kf_dq cX12_paired 76 77 1 (.iload_n 2) := ⟨by decide +kernel, rfl⟩
theorem d_X12_paired_77 : kf_dq cX12_paired 77 78 1 (.imul) := ⟨by decide +kernel, rfl⟩
theorem d_X12_paired_78 : kf_dq cX12_paired 78 79 1 (.iadd) := ⟨by decide +kernel, rfl⟩
theorem d_X12_paired_79 : kf_dq cX12_paired 79 80 1 (.ireturn) := ⟨by decide +kernel, rfl⟩
theorem d_X12_paired_80 : kf_dq cX12_paired 80 81 1 (.iconst 0) := ⟨by decide +kernel, rfl⟩
theorem d_X12_paired_81 : kf_dq cX12_paired 81 82 1 (.istore_n 3) := ⟨by decide +kernel, rfl⟩
theorem d_X12_paired_82 : kf_dq cX12_paired 82 83 1 (.iconst 0) := ⟨by decide +kernel, rfl⟩
theorem d_X12_paired_83 : kf_dq cX12_paired 83 85 2 (.istore 4) := ⟨by decide +kernel, rfl⟩
theorem d_X12_paired_85 : kf_dq cX12_paired 85 87 2 (.iload 4) := ⟨by decide +kernel, rfl⟩
theorem d_X12_paired_87 : kf_dq cX12_paired 87 88 1 (.iload_n 1) := ⟨by decide +kernel, rfl⟩
theorem d_X12_paired_88 : kf_dj cX12_paired 88 91 118 (.if_icmp .ge) := ⟨30, by decide +kernel, rfl, by decide⟩
theorem d_X12_paired_91 : kf_dq cX12_paired 91 92 1 (.aload_n 0) := ⟨by decide +kernel, rfl⟩
theorem d_X12_paired_92 : kf_dq cX12_paired 92 94 2 (.iload 4) := ⟨by decide +kernel, rfl⟩
theorem d_X12_paired_94 : kf_dq cX12_paired 94 95 1 (.iload_n 3) := ⟨by decide +kernel, rfl⟩
theorem d_X12_paired_95 : kf_dq cX12_paired 95 98 3 (.invokevirtual 445) := ⟨by decide +kernel, rfl⟩
theorem d_X12_paired_98 : kf_dq cX12_paired 98 100 2 (.istore 5) := ⟨by decide +kernel, rfl⟩
theorem d_X12_paired_100 : kf_dq cX12_paired 100 102 2 (.iload 5) := ⟨by decide +kernel, rfl⟩
theorem d_X12_paired_102 : kf_dj cX12_paired 102 105 112 (.ifCond .lt) := ⟨10, by decide +kernel, rfl, by decide⟩
theorem d_X12_paired_105 : kf_dq cX12_paired 105 106 1 (.iload_n 3) := ⟨by decide +kernel, rfl⟩
theorem d_X12_paired_106 : kf_dq cX12_paired 106 107 1 (.iconst 1) := ⟨by decide +kernel, rfl⟩
theorem d_X12_paired_107 : kf_dq cX12_paired 107 109 2 (.iload 5) := ⟨by decide +kernel, rfl⟩
theorem d_X12_paired_109 : kf_dq cX12_paired 109 110 1 (.ishl) := ⟨by decide +kernel, rfl⟩
theorem d_X12_paired_110 : kf_dq cX12_paired 110 111 1 (.ior) := ⟨by decide +kernel, rfl⟩
theorem d_X12_paired_111 : kf_dq cX12_paired 111 112 1 (.istore_n 3) := ⟨by decide +kernel, rfl⟩
theorem d_X12_paired_112 : kf_dq cX12_paired 112 115 3 (.iinc 4 1) := ⟨by decide +kernel, rfl⟩
theorem d_X12_paired_115 : kf_dj cX12_paired 115 118 85 .goto := ⟨(-30), by decide +kernel, rfl, by decide⟩
theorem d_X12_paired_118 : kf_dq cX12_paired 118 119 1 (.aload_n 0) := ⟨by decide +kernel, rfl⟩
theorem d_X12_paired_119 : kf_dq cX12_paired 119 120 1 (.iload_n 1) := ⟨by decide +kernel, rfl⟩
theorem d_X12_paired_120 : kf_dq cX12_paired 120 121 1 (.iload_n 3) := ⟨by decide +kernel, rfl⟩
theorem d_X12_paired_121 : kf_dq cX12_paired 121 124 3 (.invokevirtual 445) := ⟨by decide +kernel, rfl⟩
theorem d_X12_paired_124 : kf_dq cX12_paired 124 125 1 (.ireturn) := ⟨by decide +kernel, rfl⟩
def f_X12_paired_112 (rec85 : Nat → Int32 → Int32 → Int32 → kf_St → Option (Int32 × kf_St)) (v0 : Nat) (v1 : Int32) (v3 : Int32) (v4 : Int32) (σ : kf_St) : Option (Int32 × kf_St) :=
  kf_lt (v4 + 1) fun v4_1 =>
  rec85 v0 v1 v3 v4_1 σ
set_option maxRecDepth 100000 in
set_option maxHeartbeats 4000000 in
theorem b_X12_paired_112 {X : kf_X} {G : kf_G} {rec85 : Nat → Int32 → Int32 → Int32 → kf_St → Option (Int32 × kf_St)} {q : (Int32 × kf_St)} (E : kf_ok X G cX12_paired RX12 6 (some .int) (5)) (hty : kf_wt G) (hrec85 : ∀ (v0 : Nat) (v1 : Int32) (v3 : Int32) (v4 : Int32) (k_v0 : kf_kd G v0 = 13) (σ : kf_St), rec85 v0 v1 v3 v4 σ = some q → kf_WA X G 6 (kf_Q X G (some (.int q.1)) q.2) 85 [(0, .ref (kf_ad G v0)), (1, .int v1), (3, .int v3), (4, .int v4)] [] σ) (v0 : Nat) (v1 : Int32) (v3 : Int32) (v4 : Int32) (k_v0 : kf_kd G v0 = 13) (σ : kf_St) (h : f_X12_paired_112 rec85 v0 v1 v3 v4 σ = some q) : kf_WA X G 6 (kf_Q X G (some (.int q.1)) q.2) 112 [(0, .ref (kf_ad G v0)), (1, .int v1), (3, .int v3), (4, .int v4)] [] σ := by
  unfold f_X12_paired_112 at h
  obtain ⟨v4_1, ev4_1, h⟩ := kf_lte h
  refine wa_iinc (lv' := [(4, .int v4_1), (0, .ref (kf_ad G v0)), (1, .int v1), (3, .int v3)]) v4_1 3 rfl (kf_inc ic_1 ev4_1) (by decide) rfl E d_X12_paired_112 ?_
  refine wa_goto E d_X12_paired_115 ?_
  refine wa_sub [1, 2, 3, 0] rfl ?_
  exact hrec85 v0 v1 v3 v4_1 k_v0 σ h
def f_X12_paired_85_s (rec85 : Nat → Int32 → Int32 → Int32 → kf_St → Option (Int32 × kf_St)) (v0 : Nat) (v1 : Int32) (v3 : Int32) (v4 : Int32) (σ : kf_St) : Option (Int32 × kf_St) :=
  if v1 ≤ v4 then
    (f_X12_lowestFor v0 v1 v3 σ).bind fun q_2 =>
    some (q_2.1, q_2.2)
  else
    (f_X12_lowestFor v0 v4 v3 σ).bind fun q_3 =>
    if q_3.1 < 0 then
      f_X12_paired_112 rec85 v0 v1 v3 v4 q_3.2
    else
      kf_lt ((v3 ||| ((1 : Int32) <<< (q_3.1 &&& 31)))) fun v3_5 =>
      f_X12_paired_112 rec85 v0 v1 v3_5 v4 q_3.2
def f_X12_paired_85 : Nat → Nat → Int32 → Int32 → Int32 → kf_St → Option (Int32 × kf_St)
  | 0, _, _, _, _, _ => none
  | n + 1, v0, v1, v3, v4, σ => f_X12_paired_85_s (f_X12_paired_85 n) v0 v1 v3 v4 σ
set_option maxRecDepth 100000 in
set_option maxHeartbeats 4000000 in
theorem b_X12_paired_85_s {X : kf_X} {G : kf_G} (rec85 : Nat → Int32 → Int32 → Int32 → kf_St → Option (Int32 × kf_St)) {q : (Int32 × kf_St)} (E : kf_ok X G cX12_paired RX12 6 (some .int) (5)) (hty : kf_wt G) (hrec85 : ∀ (v0 : Nat) (v1 : Int32) (v3 : Int32) (v4 : Int32) (k_v0 : kf_kd G v0 = 13) (σ : kf_St), rec85 v0 v1 v3 v4 σ = some q → kf_WA X G 6 (kf_Q X G (some (.int q.1)) q.2) 85 [(0, .ref (kf_ad G v0)), (1, .int v1), (3, .int v3), (4, .int v4)] [] σ) (v0 : Nat) (v1 : Int32) (v3 : Int32) (v4 : Int32) (k_v0 : kf_kd G v0 = 13) (σ : kf_St) (h : f_X12_paired_85_s rec85 v0 v1 v3 v4 σ = some q) : kf_WA X G 6 (kf_Q X G (some (.int q.1)) q.2) 85 [(0, .ref (kf_ad G v0)), (1, .int v1), (3, .int v3), (4, .int v4)] [] σ := by
  unfold f_X12_paired_85_s at h
  refine wa_iload 3 rfl E d_X12_paired_85 ?_
  refine wa_iload_n 1 rfl E d_X12_paired_87 ?_
  refine wa_icmp_ge E d_X12_paired_88 (fun c_1 => ?_) (fun c_1 => ?_)
  · replace h := kf_ift c_1 h
    refine wa_aload_n 0 rfl E d_X12_paired_118 ?_
    refine wa_iload_n 1 rfl E d_X12_paired_119 ?_
    refine wa_iload_n 2 rfl E d_X12_paired_120 ?_
    obtain ⟨q_2, hq_2, h⟩ := kf_bd h
    refine wa_callV (st2 := [.int q_2.1]) (c_X12_lowestFor hty v0 v1 v3 k_v0 σ hq_2) mv_X12_lowestFor ml_X12_445 k_v0 rfl (Nat.le_of_ble_eq_true rfl) rfl (Nat.le_of_ble_eq_true rfl) E d_X12_paired_121 rfl ?_
    cases h
    exact wa_iret E d_X12_paired_124
  · replace h := kf_iff c_1 h
    refine wa_aload_n 0 rfl E d_X12_paired_91 ?_
    refine wa_iload 3 rfl E d_X12_paired_92 ?_
    refine wa_iload_n 2 rfl E d_X12_paired_94 ?_
    obtain ⟨q_3, hq_3, h⟩ := kf_bd h
    refine wa_callV (st2 := [.int q_3.1]) (c_X12_lowestFor hty v0 v4 v3 k_v0 σ hq_3) mv_X12_lowestFor ml_X12_445 k_v0 rfl (Nat.le_of_ble_eq_true rfl) rfl (Nat.le_of_ble_eq_true rfl) E d_X12_paired_95 rfl ?_
    refine wa_istore (lv' := [(5, .int q_3.1), (0, .ref (kf_ad G v0)), (1, .int v1), (3, .int v3), (4, .int v4)]) (by decide) rfl E d_X12_paired_98 ?_
    refine wa_iload 0 rfl E d_X12_paired_100 ?_
    refine wa_if_lt E d_X12_paired_102 (fun c_4 => ?_) (fun c_4 => ?_)
    · replace h := kf_ift c_4 h
      refine wa_sub [1, 2, 3, 4] rfl ?_
      exact b_X12_paired_112 E hty hrec85 v0 v1 v3 v4 k_v0 q_3.2 h
    · replace h := kf_iff c_4 h
      refine wa_iload_n 3 rfl E d_X12_paired_105 ?_
      refine wa_iconst 1 ic_1 E d_X12_paired_106 ?_
      refine wa_iload 0 rfl E d_X12_paired_107 ?_
      refine wa_ishl E d_X12_paired_109 ?_
      refine wa_ior E d_X12_paired_110 ?_
      obtain ⟨v3_5, ev3_5, h⟩ := kf_lte h
      refine wa_topi ev3_5 ?_
      refine wa_istore_n (lv' := [(3, .int v3_5), (5, .int q_3.1), (0, .ref (kf_ad G v0)), (1, .int v1), (4, .int v4)]) rfl (by decide) rfl E d_X12_paired_111 ?_
      refine wa_sub [2, 3, 0, 4] rfl ?_
      exact b_X12_paired_112 E hty hrec85 v0 v1 v3_5 v4 k_v0 q_3.2 h
theorem b_X12_paired_85 {X : kf_X} {G : kf_G} {q : (Int32 × kf_St)} (E : kf_ok X G cX12_paired RX12 6 (some .int) (5)) (hty : kf_wt G) : ∀ (N : Nat) (v0 : Nat) (v1 : Int32) (v3 : Int32) (v4 : Int32) (k_v0 : kf_kd G v0 = 13) (σ : kf_St) (_ : f_X12_paired_85 N v0 v1 v3 v4 σ = some q), kf_WA X G 6 (kf_Q X G (some (.int q.1)) q.2) 85 [(0, .ref (kf_ad G v0)), (1, .int v1), (3, .int v3), (4, .int v4)] [] σ
  | 0, _, _, _, _, _, _, h => by cases h
  | N + 1, v0, v1, v3, v4, k_v0, σ, h => b_X12_paired_85_s _ E hty (b_X12_paired_85 E hty N) v0 v1 v3 v4 k_v0 σ h
def f_X12_paired_61 (v0 : Nat) (v1 : Int32) (s0 : Int32) (σ : kf_St) : Option (Int32 × kf_St) :=
  if v1 = (-1) then
    if kf_ix 0 (kf_ln (kf_rf v0 58)) = true then
    some (((σ.1 (kf_rf v0 58) (Int32.toNatClampNeg 0)) + (10000 * s0)), σ)
    else none
  else
    f_X12_paired_85 kf_F v0 v1 0 0 σ
set_option maxRecDepth 100000 in
set_option maxHeartbeats 4000000 in
theorem b_X12_paired_61 {X : kf_X} {G : kf_G} {q : (Int32 × kf_St)} (E : kf_ok X G cX12_paired RX12 6 (some .int) (5)) (hty : kf_wt G) (v0 : Nat) (v1 : Int32) (s0 : Int32) (k_v0 : kf_kd G v0 = 13) (σ : kf_St) (h : f_X12_paired_61 v0 v1 s0 σ = some q) : kf_WA X G 6 (kf_Q X G (some (.int q.1)) q.2) 61 [(0, .ref (kf_ad G v0)), (1, .int v1)] [.int s0] σ := by
  unfold f_X12_paired_61 at h
  refine wa_istore_n (lv' := [(2, .int s0), (0, .ref (kf_ad G v0)), (1, .int v1)]) rfl (by decide) rfl E d_X12_paired_61 ?_
  refine wa_iload_n 2 rfl E d_X12_paired_62 ?_
  refine wa_iconst (-1) ic_m1 E d_X12_paired_63 ?_
  refine wa_icmp_ne E d_X12_paired_64 (fun c_1 => ?_) (fun c_1 => ?_)
  · replace h := kf_iff c_1 h
    refine wa_iconst 0 ic_0 E d_X12_paired_80 ?_
    refine wa_istore_n (lv' := [(3, .int 0), (2, .int s0), (0, .ref (kf_ad G v0)), (1, .int v1)]) rfl (by decide) rfl E d_X12_paired_81 ?_
    refine wa_iconst 0 ic_0 E d_X12_paired_82 ?_
    refine wa_istore (lv' := [(4, .int 0), (3, .int 0), (2, .int s0), (0, .ref (kf_ad G v0)), (1, .int v1)]) (by decide) rfl E d_X12_paired_83 ?_
    refine wa_sub [3, 4, 1, 0] rfl ?_
    exact b_X12_paired_85 E hty kf_F v0 v1 0 0 k_v0 σ h
  · replace h := kf_ift c_1 h
    refine wa_aload_n 1 rfl E d_X12_paired_67 ?_
    refine wa_getR fl_X12_131 k_v0 rfl E d_X12_paired_68 ?_
    refine wa_iconst 0 ic_0 E d_X12_paired_71 ?_
    obtain ⟨g_2, h⟩ := kf_gd h
    refine wa_iald (kf_wtf hty 58 49 k_v0 (by decide) rfl) g_2 E d_X12_paired_72 ?_
    refine wa_sipush 10000 sp_10000 E d_X12_paired_73 ?_
    refine wa_iload_n 0 rfl E d_X12_paired_76 ?_
    refine wa_imul E d_X12_paired_77 ?_
    refine wa_iadd E d_X12_paired_78 ?_
    cases h
    exact wa_iret E d_X12_paired_79
def f_X12_paired_15 (v0 : Nat) (v1 : Int32) (σ : kf_St) : Option (Int32 × kf_St) :=
  (f_X12_fillsPaired v0 σ).bind fun q_1 =>
  if kf_ix (q_1.1 v0 18) (kf_ln (kf_rf v0 23)) = true then
  if kf_ix (q_1.1 v0 18) (kf_ln (kf_rf v0 25)) = true then
  if (q_1.1 (kf_rf v0 25) (Int32.toNatClampNeg (q_1.1 v0 18))) ≤ (q_1.1 (kf_rf v0 23) (Int32.toNatClampNeg (q_1.1 v0 18))) then
    if kf_ix (q_1.1 v0 18) (kf_ln (kf_rf v0 25)) = true then
    f_X12_paired_61 v0 v1 (q_1.1 (kf_rf v0 25) (Int32.toNatClampNeg (q_1.1 v0 18))) q_1
    else none
  else
    if kf_ix (q_1.1 v0 18) (kf_ln (kf_rf v0 23)) = true then
    f_X12_paired_61 v0 v1 (q_1.1 (kf_rf v0 23) (Int32.toNatClampNeg (q_1.1 v0 18))) q_1
    else none
  else none
  else none
set_option maxRecDepth 100000 in
set_option maxHeartbeats 4000000 in
theorem b_X12_paired_15 {X : kf_X} {G : kf_G} {q : (Int32 × kf_St)} (E : kf_ok X G cX12_paired RX12 6 (some .int) (5)) (hty : kf_wt G) (v0 : Nat) (v1 : Int32) (k_v0 : kf_kd G v0 = 13) (σ : kf_St) (h : f_X12_paired_15 v0 v1 σ = some q) : kf_WA X G 6 (kf_Q X G (some (.int q.1)) q.2) 15 [(0, .ref (kf_ad G v0)), (1, .int v1)] [] σ := by
  unfold f_X12_paired_15 at h
  refine wa_aload_n 0 rfl E d_X12_paired_15 ?_
  obtain ⟨q_1, hq_1, h⟩ := kf_bd h
  refine wa_callV (st2 := []) (c_X12_fillsPaired hty v0 k_v0 σ hq_1) mv_X12_fillsPaired ml_X12_442 k_v0 rfl (Nat.le_of_ble_eq_true rfl) rfl (Nat.le_of_ble_eq_true rfl) E d_X12_paired_16 rfl ?_
  refine wa_aload_n 0 rfl E d_X12_paired_19 ?_
  refine wa_getR fl_X12_46 k_v0 rfl E d_X12_paired_20 ?_
  refine wa_aload_n 0 rfl E d_X12_paired_23 ?_
  refine wa_getI fl_X12_233 k_v0 rfl E d_X12_paired_24 ?_
  obtain ⟨g_2, h⟩ := kf_gd h
  refine wa_iald (kf_wtf hty 23 49 k_v0 (by decide) rfl) g_2 E d_X12_paired_27 ?_
  refine wa_aload_n 0 rfl E d_X12_paired_28 ?_
  refine wa_getR fl_X12_52 k_v0 rfl E d_X12_paired_29 ?_
  refine wa_aload_n 0 rfl E d_X12_paired_32 ?_
  refine wa_getI fl_X12_233 k_v0 rfl E d_X12_paired_33 ?_
  obtain ⟨g_3, h⟩ := kf_gd h
  refine wa_iald (kf_wtf hty 25 49 k_v0 (by decide) rfl) g_3 E d_X12_paired_36 ?_
  refine wa_icmp_ge E d_X12_paired_37 (fun c_4 => ?_) (fun c_4 => ?_)
  · replace h := kf_ift c_4 h
    refine wa_aload_n 0 rfl E d_X12_paired_52 ?_
    refine wa_getR fl_X12_52 k_v0 rfl E d_X12_paired_53 ?_
    refine wa_aload_n 0 rfl E d_X12_paired_56 ?_
    refine wa_getI fl_X12_233 k_v0 rfl E d_X12_paired_57 ?_
    obtain ⟨g_5, h⟩ := kf_gd h
    refine wa_iald (kf_wtf hty 25 49 k_v0 (by decide) rfl) g_5 E d_X12_paired_60 ?_
    exact b_X12_paired_61 E hty v0 v1 (q_1.1 (kf_rf v0 25) (Int32.toNatClampNeg (q_1.1 v0 18))) k_v0 q_1 h
  · replace h := kf_iff c_4 h
    refine wa_aload_n 0 rfl E d_X12_paired_40 ?_
    refine wa_getR fl_X12_46 k_v0 rfl E d_X12_paired_41 ?_
    refine wa_aload_n 0 rfl E d_X12_paired_44 ?_
    refine wa_getI fl_X12_233 k_v0 rfl E d_X12_paired_45 ?_
    obtain ⟨g_6, h⟩ := kf_gd h
    refine wa_iald (kf_wtf hty 23 49 k_v0 (by decide) rfl) g_6 E d_X12_paired_48 ?_
    refine wa_goto E d_X12_paired_49 ?_
    exact b_X12_paired_61 E hty v0 v1 (q_1.1 (kf_rf v0 23) (Int32.toNatClampNeg (q_1.1 v0 18))) k_v0 q_1 h
def f_X12_paired (v0 : Nat) (v1 : Int32) (σ : kf_St) : Option (Int32 × kf_St) :=
  if v1 = (-1) then
    f_X12_paired_15 v0 v1 σ
  else
    (f_X12_isDoor v0 v1 σ).bind fun q_2 =>
    if q_2.1 = 0 then
      some ((-1), q_2.2)
    else
      f_X12_paired_15 v0 v1 q_2.2
set_option maxRecDepth 100000 in
set_option maxHeartbeats 4000000 in
theorem c_X12_paired {G : kf_G} (hty : kf_wt G) (v0 : Nat) (v1 : Int32) (k_v0 : kf_kd G v0 = 13) (σ : kf_St) {q : (Int32 × kf_St)} (h : f_X12_paired v0 v1 σ = some q) : kf_Ct (5) yX12_paired cX12_paired 6 (some .int) G [.ref (kf_ad G v0), .int v1] σ (some (.int q.1)) q.2 := by
  refine kf_Ct.of hty.1 (lv := [(0, .ref (kf_ad G v0)), (1, .int v1)]) (by decide +kernel) rfl (Nat.le_of_ble_eq_true rfl) (fun X E => ?_)
  unfold f_X12_paired at h
  refine wa_iload_n 1 rfl E d_X12_paired_0 ?_
  refine wa_iconst (-1) ic_m1 E d_X12_paired_1 ?_
  refine wa_icmp_eq E d_X12_paired_2 (fun c_1 => ?_) (fun c_1 => ?_)
  · replace h := kf_ift c_1 h
    exact b_X12_paired_15 E hty v0 v1 k_v0 σ h
  · replace h := kf_iff c_1 h
    refine wa_aload_n 0 rfl E d_X12_paired_5 ?_
    refine wa_iload_n 1 rfl E d_X12_paired_6 ?_
    obtain ⟨q_2, hq_2, h⟩ := kf_bd h
    refine wa_callV (st2 := [.int q_2.1]) (c_X12_isDoor hty v0 v1 k_v0 σ hq_2) mv_X12_isDoor ml_X12_387 k_v0 rfl (Nat.le_of_ble_eq_true rfl) rfl (Nat.le_of_ble_eq_true rfl) E d_X12_paired_7 rfl ?_
    refine wa_if_ne E d_X12_paired_10 (fun c_3 => ?_) (fun c_3 => ?_)
    · replace h := kf_iff c_3 h
      exact b_X12_paired_15 E hty v0 v1 k_v0 q_2.2 h
    · replace h := kf_ift c_3 h
      refine wa_iconst (-1) ic_m1 E d_X12_paired_13 ?_
      cases h
      exact wa_iret E d_X12_paired_14
/-! X12_changes -/
theorem d_X12_changes_0 : kf_dq cX12_changes 0 1 1 (.aload_n 0) := ⟨by decide +kernel, rfl⟩
theorem d_X12_changes_1 : kf_dq cX12_changes 1 2 1 (.iload_n 1) := ⟨by decide +kernel, rfl⟩
theorem d_X12_changes_2 : kf_dq cX12_changes 2 5 3 (.invokevirtual 387) := ⟨by decide +kernel, rfl⟩
theorem d_X12_changes_5 : kf_dj cX12_changes 5 8 10 (.ifCond .ne) := ⟨5, by decide +kernel, rfl, by decide⟩
theorem d_X12_changes_8 : kf_dq cX12_changes 8 9 1 (.iconst (-1)) := ⟨by decide +kernel, rfl⟩
theorem d_X12_changes_9 : kf_dq cX12_changes 9 10 1 (.ireturn) := ⟨by decide +kernel, rfl⟩
theorem d_X12_changes_10 : kf_dq cX12_changes 10 11 1 (.aload_n 0) := ⟨by decide +kernel, rfl⟩
theorem d_X12_changes_11 : kf_dq cX12_changes 11 14 3 (.invokevirtual 430) := ⟨by decide +kernel, rfl⟩
theorem d_X12_changes_14 : kf_dq cX12_changes 14 15 1 (.aload_n 0) := ⟨by decide +kernel, rfl⟩
theorem d_X12_changes_15 : kf_dq cX12_changes 15 16 1 (.iload_n 1) := ⟨by decide +kernel, rfl⟩
theorem d_X12_changes_16 : kf_dq cX12_changes 16 19 3 (.invokevirtual 390) := ⟨by decide +kernel, rfl⟩
theorem d_X12_changes_19 : kf_dq cX12_changes 19 20 1 (.istore_n 2) := ⟨by decide +kernel, rfl⟩
theorem d_X12_changes_20 : kf_dq cX12_changes 20 21 1 (.iconst 1) := ⟨by decide +kernel, rfl⟩
theorem d_X12_changes_21 : kf_dq cX12_changes 21 22 1 (.istore_n 3) := ⟨by decide +kernel, rfl⟩
theorem d_X12_changes_22 : kf_dq cX12_changes 22 23 1 (.iload_n 3) := ⟨by decide +kernel, rfl⟩
theorem d_X12_changes_23 : kf_dq cX12_changes 23 25 2 (.bipush 60) := ⟨by decide +kernel, rfl⟩
theorem d_X12_changes_25 : kf_dj cX12_changes 25 28 49 (.if_icmp .gt) := ⟨24, by decide +kernel, rfl, by decide⟩
theorem d_X12_changes_28 : kf_dq cX12_changes 28 29 1 (.aload_n 0) := ⟨by decide +kernel, rfl⟩
theorem d_X12_changes_29 : kf_dq cX12_changes 29 32 3 (.invokevirtual 384) := ⟨by decide +kernel, rfl⟩
theorem d_X12_changes_32 : kf_dq cX12_changes 32 33 1 (.aload_n 0) := ⟨by decide +kernel, rfl⟩
theorem d_X12_changes_33 : kf_dq cX12_changes 33 34 1 (.iload_n 1) := ⟨by decide +kernel, rfl⟩
theorem d_X12_changes_34 : kf_dq cX12_changes 34 37 3 (.invokevirtual 390) := ⟨by decide +kernel, rfl⟩
theorem d_X12_changes_37 : kf_dq cX12_changes 37 38 1 (.iload_n 2) := ⟨by decide +kernel, rfl⟩
theorem d_X12_changes_38 : kf_dj cX12_changes 38 41 43 (.if_icmp .eq) := ⟨5, by decide +kernel, rfl, by decide⟩
theorem d_X12_changes_41 : kf_dq cX12_changes 41 42 1 (.iload_n 3) := ⟨by decide +kernel, rfl⟩
theorem d_X12_changes_42 : kf_dq cX12_changes 42 43 1 (.ireturn) := ⟨by decide +kernel, rfl⟩
theorem d_X12_changes_43 : kf_dq cX12_changes 43 46 3 (.iinc 3 1) := ⟨by decide +kernel, rfl⟩
theorem d_X12_changes_46 : kf_dj cX12_changes 46 49 22 .goto := ⟨(-24), by decide +kernel, rfl, by decide⟩
theorem d_X12_changes_49 : kf_dq cX12_changes 49 51 2 (.bipush (-2)) := ⟨by decide +kernel, rfl⟩
theorem d_X12_changes_51 : kf_dq cX12_changes 51 52 1 (.ireturn) := ⟨by decide +kernel, rfl⟩
def f_X12_changes_22_s (rec22 : Nat → Int32 → Int32 → Int32 → kf_St → Option (Int32 × kf_St)) (v0 : Nat) (v1 : Int32) (v2 : Int32) (v3 : Int32) (σ : kf_St) : Option (Int32 × kf_St) :=
  if 60 < v3 then
    some ((-2), σ)
  else
    (f_X12_dayGoes v0 σ).bind fun q_2 =>
    (f_X12_knownBy v0 v1 q_2).bind fun q_3 =>
    if q_3.1 = v2 then
      kf_lt (v3 + 1) fun v3_5 =>
      rec22 v0 v1 v2 v3_5 q_3.2
    else
      some (v3, q_3.2)
def f_X12_changes_22 : Nat → Nat → Int32 → Int32 → Int32 → kf_St → Option (Int32 × kf_St)
  | 0, _, _, _, _, _ => none
  | n + 1, v0, v1, v2, v3, σ => f_X12_changes_22_s (f_X12_changes_22 n) v0 v1 v2 v3 σ
set_option maxRecDepth 100000 in
set_option maxHeartbeats 4000000 in
theorem b_X12_changes_22_s {X : kf_X} {G : kf_G} (rec22 : Nat → Int32 → Int32 → Int32 → kf_St → Option (Int32 × kf_St)) {q : (Int32 × kf_St)} (E : kf_ok X G cX12_changes RX12 4 (some .int) (6)) (hty : kf_wt G) (hrec22 : ∀ (v0 : Nat) (v1 : Int32) (v2 : Int32) (v3 : Int32) (k_v0 : kf_kd G v0 = 13) (σ : kf_St), rec22 v0 v1 v2 v3 σ = some q → kf_WA X G 4 (kf_Q X G (some (.int q.1)) q.2) 22 [(0, .ref (kf_ad G v0)), (1, .int v1), (2, .int v2), (3, .int v3)] [] σ) (v0 : Nat) (v1 : Int32) (v2 : Int32) (v3 : Int32) (k_v0 : kf_kd G v0 = 13) (σ : kf_St) (h : f_X12_changes_22_s rec22 v0 v1 v2 v3 σ = some q) : kf_WA X G 4 (kf_Q X G (some (.int q.1)) q.2) 22 [(0, .ref (kf_ad G v0)), (1, .int v1), (2, .int v2), (3, .int v3)] [] σ := by
  unfold f_X12_changes_22_s at h
  refine wa_iload_n 3 rfl E d_X12_changes_22 ?_
  refine wa_bipush 60 bp_60 E d_X12_changes_23 ?_
  refine wa_icmp_gt E d_X12_changes_25 (fun c_1 => ?_) (fun c_1 => ?_)
  · replace h := kf_ift c_1 h
    refine wa_bipush (-2) bp_m2 E d_X12_changes_49 ?_
    cases h
    exact wa_iret E d_X12_changes_51
  · replace h := kf_iff c_1 h
    refine wa_aload_n 0 rfl E d_X12_changes_28 ?_
    obtain ⟨q_2, hq_2, h⟩ := kf_bd h
    refine wa_callV (st2 := []) (c_X12_dayGoes hty v0 k_v0 σ hq_2) mv_X12_dayGoes ml_X12_384 k_v0 rfl (Nat.le_of_ble_eq_true rfl) rfl (Nat.le_of_ble_eq_true rfl) E d_X12_changes_29 rfl ?_
    refine wa_aload_n 0 rfl E d_X12_changes_32 ?_
    refine wa_iload_n 1 rfl E d_X12_changes_33 ?_
    obtain ⟨q_3, hq_3, h⟩ := kf_bd h
    refine wa_callV (st2 := [.int q_3.1]) (c_X12_knownBy hty v0 v1 k_v0 q_2 hq_3) mv_X12_knownBy ml_X12_390 k_v0 rfl (Nat.le_of_ble_eq_true rfl) rfl (Nat.le_of_ble_eq_true rfl) E d_X12_changes_34 rfl ?_
    refine wa_iload_n 2 rfl E d_X12_changes_37 ?_
    refine wa_icmp_eq E d_X12_changes_38 (fun c_4 => ?_) (fun c_4 => ?_)
    · replace h := kf_ift c_4 h
      obtain ⟨v3_5, ev3_5, h⟩ := kf_lte h
      refine wa_iinc (lv' := [(3, .int v3_5), (0, .ref (kf_ad G v0)), (1, .int v1), (2, .int v2)]) v3_5 3 rfl (kf_inc ic_1 ev3_5) (by decide) rfl E d_X12_changes_43 ?_
      refine wa_goto E d_X12_changes_46 ?_
      refine wa_sub [1, 2, 3, 0] rfl ?_
      exact hrec22 v0 v1 v2 v3_5 k_v0 q_3.2 h
    · replace h := kf_iff c_4 h
      refine wa_iload_n 3 rfl E d_X12_changes_41 ?_
      cases h
      exact wa_iret E d_X12_changes_42
theorem b_X12_changes_22 {X : kf_X} {G : kf_G} {q : (Int32 × kf_St)} (E : kf_ok X G cX12_changes RX12 4 (some .int) (6)) (hty : kf_wt G) : ∀ (N : Nat) (v0 : Nat) (v1 : Int32) (v2 : Int32) (v3 : Int32) (k_v0 : kf_kd G v0 = 13) (σ : kf_St) (_ : f_X12_changes_22 N v0 v1 v2 v3 σ = some q), kf_WA X G 4 (kf_Q X G (some (.int q.1)) q.2) 22 [(0, .ref (kf_ad G v0)), (1, .int v1), (2, .int v2), (3, .int v3)] [] σ
  | 0, _, _, _, _, _, _, h => by cases h
  | N + 1, v0, v1, v2, v3, k_v0, σ, h => b_X12_changes_22_s _ E hty (b_X12_changes_22 E hty N) v0 v1 v2 v3 k_v0 σ h
def f_X12_changes (v0 : Nat) (v1 : Int32) (σ : kf_St) : Option (Int32 × kf_St) :=
  (f_X12_isDoor v0 v1 σ).bind fun q_1 =>
  if q_1.1 = 0 then
    some ((-1), q_1.2)
  else
    (f_X12_copiesStill v0 q_1.2).bind fun q_3 =>
    (f_X12_knownBy v0 v1 q_3).bind fun q_4 =>
    f_X12_changes_22 kf_F v0 v1 q_4.1 1 q_4.2
set_option maxRecDepth 100000 in
set_option maxHeartbeats 4000000 in
theorem c_X12_changes {G : kf_G} (hty : kf_wt G) (v0 : Nat) (v1 : Int32) (k_v0 : kf_kd G v0 = 13) (σ : kf_St) {q : (Int32 × kf_St)} (h : f_X12_changes v0 v1 σ = some q) : kf_Ct (6) yX12_changes cX12_changes 4 (some .int) G [.ref (kf_ad G v0), .int v1] σ (some (.int q.1)) q.2 := by
  refine kf_Ct.of hty.1 (lv := [(0, .ref (kf_ad G v0)), (1, .int v1)]) (by decide +kernel) rfl (Nat.le_of_ble_eq_true rfl) (fun X E => ?_)
  unfold f_X12_changes at h
  refine wa_aload_n 0 rfl E d_X12_changes_0 ?_
  refine wa_iload_n 1 rfl E d_X12_changes_1 ?_
  obtain ⟨q_1, hq_1, h⟩ := kf_bd h
  refine wa_callV (st2 := [.int q_1.1]) (c_X12_isDoor hty v0 v1 k_v0 σ hq_1) mv_X12_isDoor ml_X12_387 k_v0 rfl (Nat.le_of_ble_eq_true rfl) rfl (Nat.le_of_ble_eq_true rfl) E d_X12_changes_2 rfl ?_
  refine wa_if_ne E d_X12_changes_5 (fun c_2 => ?_) (fun c_2 => ?_)
  · replace h := kf_iff c_2 h
    refine wa_aload_n 0 rfl E d_X12_changes_10 ?_
    obtain ⟨q_3, hq_3, h⟩ := kf_bd h
    refine wa_callV (st2 := []) (c_X12_copiesStill hty v0 k_v0 q_1.2 hq_3) mv_X12_copiesStill ml_X12_430 k_v0 rfl (Nat.le_of_ble_eq_true rfl) rfl (Nat.le_of_ble_eq_true rfl) E d_X12_changes_11 rfl ?_
    refine wa_aload_n 0 rfl E d_X12_changes_14 ?_
    refine wa_iload_n 1 rfl E d_X12_changes_15 ?_
    obtain ⟨q_4, hq_4, h⟩ := kf_bd h
    refine wa_callV (st2 := [.int q_4.1]) (c_X12_knownBy hty v0 v1 k_v0 q_3 hq_4) mv_X12_knownBy ml_X12_390 k_v0 rfl (Nat.le_of_ble_eq_true rfl) rfl (Nat.le_of_ble_eq_true rfl) E d_X12_changes_16 rfl ?_
    refine wa_istore_n (lv' := [(2, .int q_4.1), (0, .ref (kf_ad G v0)), (1, .int v1)]) rfl (by decide) rfl E d_X12_changes_19 ?_
    refine wa_iconst 1 ic_1 E d_X12_changes_20 ?_
    refine wa_istore_n (lv' := [(3, .int 1), (2, .int q_4.1), (0, .ref (kf_ad G v0)), (1, .int v1)]) rfl (by decide) rfl E d_X12_changes_21 ?_
    refine wa_sub [2, 3, 1, 0] rfl ?_
    exact b_X12_changes_22 E hty kf_F v0 v1 q_4.1 1 k_v0 q_4.2 h
  · replace h := kf_ift c_2 h
    refine wa_iconst (-1) ic_m1 E d_X12_changes_8 ?_
    cases h
    exact wa_iret E d_X12_changes_9
/-! X12_rubs -/
theorem d_X12_rubs_0 : kf_dq cX12_rubs 0 1 1 (.aload_n 0) := ⟨by decide +kernel, rfl⟩
theorem d_X12_rubs_1 : kf_dq cX12_rubs 1 2 1 (.iload_n 1) := ⟨by decide +kernel, rfl⟩
theorem d_X12_rubs_2 : kf_dq cX12_rubs 2 5 3 (.invokevirtual 387) := ⟨by decide +kernel, rfl⟩
theorem d_X12_rubs_5 : kf_dj cX12_rubs 5 8 10 (.ifCond .ne) := ⟨5, by decide +kernel, rfl, by decide⟩
theorem d_X12_rubs_8 : kf_dq cX12_rubs 8 9 1 (.iconst (-1)) := ⟨by decide +kernel, rfl⟩
theorem d_X12_rubs_9 : kf_dq cX12_rubs 9 10 1 (.ireturn) := ⟨by decide +kernel, rfl⟩
theorem d_X12_rubs_10 : kf_dq cX12_rubs 10 11 1 (.aload_n 0) := ⟨by decide +kernel, rfl⟩
theorem d_X12_rubs_11 : kf_dq cX12_rubs 11 14 3 (.invokevirtual 323) := ⟨by decide +kernel, rfl⟩
theorem d_X12_rubs_14 : kf_dq cX12_rubs 14 15 1 (.aload_n 0) := ⟨by decide +kernel, rfl⟩
theorem d_X12_rubs_15 : kf_dq cX12_rubs 15 16 1 (.iload_n 1) := ⟨by decide +kernel, rfl⟩
theorem d_X12_rubs_16 : kf_dq cX12_rubs 16 19 3 (.invokevirtual 390) := ⟨by decide +kernel, rfl⟩
theorem d_X12_rubs_19 : kf_dq cX12_rubs 19 20 1 (.istore_n 2) := ⟨by decide +kernel, rfl⟩
theorem d_X12_rubs_20 : kf_dq cX12_rubs 20 21 1 (.iload_n 2) := ⟨by decide +kernel, rfl⟩
theorem d_X12_rubs_21 : kf_dj cX12_rubs 21 24 27 (.ifCond .ge) := ⟨6, by decide +kernel, rfl, by decide⟩
theorem d_X12_rubs_24 : kf_dq cX12_rubs 24 26 2 (.bipush (-2)) := ⟨by decide +kernel, rfl⟩
theorem d_X12_rubs_26 : kf_dq cX12_rubs 26 27 1 (.ireturn) := ⟨by decide +kernel, rfl⟩
theorem d_X12_rubs_27 : kf_dq cX12_rubs 27 28 1 (.iconst 1) := ⟨by decide +kernel, rfl⟩
theorem d_X12_rubs_28 : kf_dq cX12_rubs 28 29 1 (.istore_n 3) := ⟨by decide +kernel, rfl⟩
theorem d_X12_rubs_29 : kf_dq cX12_rubs 29 30 1 (.iload_n 3) := ⟨by decide +kernel, rfl⟩
theorem d_X12_rubs_30 : kf_dq cX12_rubs 30 32 2 (.bipush 10) := ⟨by decide +kernel, rfl⟩
theorem d_X12_rubs_32 : kf_dj cX12_rubs 32 35 57 (.if_icmp .gt) := ⟨25, by decide +kernel, rfl, by decide⟩
theorem d_X12_rubs_35 : kf_dq cX12_rubs 35 36 1 (.aload_n 0) := ⟨by decide +kernel, rfl⟩
theorem d_X12_rubs_36 : kf_dq cX12_rubs 36 37 1 (.iload_n 1) := ⟨by decide +kernel, rfl⟩
theorem d_X12_rubs_37 : kf_dq cX12_rubs 37 40 3 (.invokevirtual 405) := ⟨by decide +kernel, rfl⟩
theorem d_X12_rubs_40 : kf_dq cX12_rubs 40 41 1 (.aload_n 0) := ⟨by decide +kernel, rfl⟩
theorem d_X12_rubs_41 : kf_dq cX12_rubs 41 42 1 (.iload_n 1) := ⟨by decide +kernel, rfl⟩
theorem d_X12_rubs_42 : kf_dq cX12_rubs 42 45 3 (.invokevirtual 390) := ⟨by decide +kernel, rfl⟩
theorem d_X12_rubs_45 : kf_dq cX12_rubs 45 46 1 (.iload_n 2) := ⟨by decide +kernel, rfl⟩
theorem d_X12_rubs_46 : kf_dj cX12_rubs 46 49 51 (.if_icmp .eq) := ⟨5, by decide +kernel, rfl, by decide⟩
theorem d_X12_rubs_49 : kf_dq cX12_rubs 49 50 1 (.iload_n 3) := ⟨by decide +kernel, rfl⟩
theorem d_X12_rubs_50 : kf_dq cX12_rubs 50 51 1 (.ireturn) := ⟨by decide +kernel, rfl⟩
theorem d_X12_rubs_51 : kf_dq cX12_rubs 51 54 3 (.iinc 3 1) := ⟨by decide +kernel, rfl⟩
theorem d_X12_rubs_54 : kf_dj cX12_rubs 54 57 29 .goto := ⟨(-25), by decide +kernel, rfl, by decide⟩
theorem d_X12_rubs_57 : kf_dq cX12_rubs 57 59 2 (.bipush (-2)) := ⟨by decide +kernel, rfl⟩
theorem d_X12_rubs_59 : kf_dq cX12_rubs 59 60 1 (.ireturn) := ⟨by decide +kernel, rfl⟩
def f_X12_rubs_29_s (rec29 : Nat → Int32 → Int32 → Int32 → kf_St → Option (Int32 × kf_St)) (v0 : Nat) (v1 : Int32) (v2 : Int32) (v3 : Int32) (σ : kf_St) : Option (Int32 × kf_St) :=
  if 10 < v3 then
    some ((-2), σ)
  else
    (f_X12_polished v0 v1 σ).bind fun q_2 =>
    (f_X12_knownBy v0 v1 q_2).bind fun q_3 =>
    if q_3.1 = v2 then
      kf_lt (v3 + 1) fun v3_5 =>
      rec29 v0 v1 v2 v3_5 q_3.2
    else
      some (v3, q_3.2)
def f_X12_rubs_29 : Nat → Nat → Int32 → Int32 → Int32 → kf_St → Option (Int32 × kf_St)
  | 0, _, _, _, _, _ => none
  | n + 1, v0, v1, v2, v3, σ => f_X12_rubs_29_s (f_X12_rubs_29 n) v0 v1 v2 v3 σ
set_option maxRecDepth 100000 in
set_option maxHeartbeats 4000000 in
theorem b_X12_rubs_29_s {X : kf_X} {G : kf_G} (rec29 : Nat → Int32 → Int32 → Int32 → kf_St → Option (Int32 × kf_St)) {q : (Int32 × kf_St)} (E : kf_ok X G cX12_rubs RX12 4 (some .int) (4)) (hty : kf_wt G) (hrec29 : ∀ (v0 : Nat) (v1 : Int32) (v2 : Int32) (v3 : Int32) (k_v0 : kf_kd G v0 = 13) (σ : kf_St), rec29 v0 v1 v2 v3 σ = some q → kf_WA X G 4 (kf_Q X G (some (.int q.1)) q.2) 29 [(0, .ref (kf_ad G v0)), (1, .int v1), (2, .int v2), (3, .int v3)] [] σ) (v0 : Nat) (v1 : Int32) (v2 : Int32) (v3 : Int32) (k_v0 : kf_kd G v0 = 13) (σ : kf_St) (h : f_X12_rubs_29_s rec29 v0 v1 v2 v3 σ = some q) : kf_WA X G 4 (kf_Q X G (some (.int q.1)) q.2) 29 [(0, .ref (kf_ad G v0)), (1, .int v1), (2, .int v2), (3, .int v3)] [] σ := by
  unfold f_X12_rubs_29_s at h
  refine wa_iload_n 3 rfl E d_X12_rubs_29 ?_
  refine wa_bipush 10 bp_10 E d_X12_rubs_30 ?_
  refine wa_icmp_gt E d_X12_rubs_32 (fun c_1 => ?_) (fun c_1 => ?_)
  · replace h := kf_ift c_1 h
    refine wa_bipush (-2) bp_m2 E d_X12_rubs_57 ?_
    cases h
    exact wa_iret E d_X12_rubs_59
  · replace h := kf_iff c_1 h
    refine wa_aload_n 0 rfl E d_X12_rubs_35 ?_
    refine wa_iload_n 1 rfl E d_X12_rubs_36 ?_
    obtain ⟨q_2, hq_2, h⟩ := kf_bd h
    refine wa_callV (st2 := []) (c_X12_polished hty v0 v1 k_v0 σ hq_2) mv_X12_polished ml_X12_405 k_v0 rfl (Nat.le_of_ble_eq_true rfl) rfl (Nat.le_of_ble_eq_true rfl) E d_X12_rubs_37 rfl ?_
    refine wa_aload_n 0 rfl E d_X12_rubs_40 ?_
    refine wa_iload_n 1 rfl E d_X12_rubs_41 ?_
    obtain ⟨q_3, hq_3, h⟩ := kf_bd h
    refine wa_callV (st2 := [.int q_3.1]) (c_X12_knownBy hty v0 v1 k_v0 q_2 hq_3) mv_X12_knownBy ml_X12_390 k_v0 rfl (Nat.le_of_ble_eq_true rfl) rfl (Nat.le_of_ble_eq_true rfl) E d_X12_rubs_42 rfl ?_
    refine wa_iload_n 2 rfl E d_X12_rubs_45 ?_
    refine wa_icmp_eq E d_X12_rubs_46 (fun c_4 => ?_) (fun c_4 => ?_)
    · replace h := kf_ift c_4 h
      obtain ⟨v3_5, ev3_5, h⟩ := kf_lte h
      refine wa_iinc (lv' := [(3, .int v3_5), (0, .ref (kf_ad G v0)), (1, .int v1), (2, .int v2)]) v3_5 3 rfl (kf_inc ic_1 ev3_5) (by decide) rfl E d_X12_rubs_51 ?_
      refine wa_goto E d_X12_rubs_54 ?_
      refine wa_sub [1, 2, 3, 0] rfl ?_
      exact hrec29 v0 v1 v2 v3_5 k_v0 q_3.2 h
    · replace h := kf_iff c_4 h
      refine wa_iload_n 3 rfl E d_X12_rubs_49 ?_
      cases h
      exact wa_iret E d_X12_rubs_50
theorem b_X12_rubs_29 {X : kf_X} {G : kf_G} {q : (Int32 × kf_St)} (E : kf_ok X G cX12_rubs RX12 4 (some .int) (4)) (hty : kf_wt G) : ∀ (N : Nat) (v0 : Nat) (v1 : Int32) (v2 : Int32) (v3 : Int32) (k_v0 : kf_kd G v0 = 13) (σ : kf_St) (_ : f_X12_rubs_29 N v0 v1 v2 v3 σ = some q), kf_WA X G 4 (kf_Q X G (some (.int q.1)) q.2) 29 [(0, .ref (kf_ad G v0)), (1, .int v1), (2, .int v2), (3, .int v3)] [] σ
  | 0, _, _, _, _, _, _, h => by cases h
  | N + 1, v0, v1, v2, v3, k_v0, σ, h => b_X12_rubs_29_s _ E hty (b_X12_rubs_29 E hty N) v0 v1 v2 v3 k_v0 σ h
def f_X12_rubs (v0 : Nat) (v1 : Int32) (σ : kf_St) : Option (Int32 × kf_St) :=
  (f_X12_isDoor v0 v1 σ).bind fun q_1 =>
  if q_1.1 = 0 then
    some ((-1), q_1.2)
  else
    (f_X12_copies v0 q_1.2).bind fun q_3 =>
    (f_X12_knownBy v0 v1 q_3).bind fun q_4 =>
    if 0 ≤ q_4.1 then
      f_X12_rubs_29 kf_F v0 v1 q_4.1 1 q_4.2
    else
      some ((-2), q_4.2)
set_option maxRecDepth 100000 in
set_option maxHeartbeats 4000000 in
theorem c_X12_rubs {G : kf_G} (hty : kf_wt G) (v0 : Nat) (v1 : Int32) (k_v0 : kf_kd G v0 = 13) (σ : kf_St) {q : (Int32 × kf_St)} (h : f_X12_rubs v0 v1 σ = some q) : kf_Ct (4) yX12_rubs cX12_rubs 4 (some .int) G [.ref (kf_ad G v0), .int v1] σ (some (.int q.1)) q.2 := by
  refine kf_Ct.of hty.1 (lv := [(0, .ref (kf_ad G v0)), (1, .int v1)]) (by decide +kernel) rfl (Nat.le_of_ble_eq_true rfl) (fun X E => ?_)
  unfold f_X12_rubs at h
  refine wa_aload_n 0 rfl E d_X12_rubs_0 ?_
  refine wa_iload_n 1 rfl E d_X12_rubs_1 ?_
  obtain ⟨q_1, hq_1, h⟩ := kf_bd h
  refine wa_callV (st2 := [.int q_1.1]) (c_X12_isDoor hty v0 v1 k_v0 σ hq_1) mv_X12_isDoor ml_X12_387 k_v0 rfl (Nat.le_of_ble_eq_true rfl) rfl (Nat.le_of_ble_eq_true rfl) E d_X12_rubs_2 rfl ?_
  refine wa_if_ne E d_X12_rubs_5 (fun c_2 => ?_) (fun c_2 => ?_)
  · replace h := kf_iff c_2 h
    refine wa_aload_n 0 rfl E d_X12_rubs_10 ?_
    obtain ⟨q_3, hq_3, h⟩ := kf_bd h
    refine wa_callV (st2 := []) (c_X12_copies hty v0 k_v0 q_1.2 hq_3) mv_X12_copies ml_X12_323 k_v0 rfl (Nat.le_of_ble_eq_true rfl) rfl (Nat.le_of_ble_eq_true rfl) E d_X12_rubs_11 rfl ?_
    refine wa_aload_n 0 rfl E d_X12_rubs_14 ?_
    refine wa_iload_n 1 rfl E d_X12_rubs_15 ?_
    obtain ⟨q_4, hq_4, h⟩ := kf_bd h
    refine wa_callV (st2 := [.int q_4.1]) (c_X12_knownBy hty v0 v1 k_v0 q_3 hq_4) mv_X12_knownBy ml_X12_390 k_v0 rfl (Nat.le_of_ble_eq_true rfl) rfl (Nat.le_of_ble_eq_true rfl) E d_X12_rubs_16 rfl ?_
    refine wa_istore_n (lv' := [(2, .int q_4.1), (0, .ref (kf_ad G v0)), (1, .int v1)]) rfl (by decide) rfl E d_X12_rubs_19 ?_
    refine wa_iload_n 0 rfl E d_X12_rubs_20 ?_
    refine wa_if_ge E d_X12_rubs_21 (fun c_5 => ?_) (fun c_5 => ?_)
    · replace h := kf_ift c_5 h
      refine wa_iconst 1 ic_1 E d_X12_rubs_27 ?_
      refine wa_istore_n (lv' := [(3, .int 1), (2, .int q_4.1), (0, .ref (kf_ad G v0)), (1, .int v1)]) rfl (by decide) rfl E d_X12_rubs_28 ?_
      refine wa_sub [2, 3, 1, 0] rfl ?_
      exact b_X12_rubs_29 E hty kf_F v0 v1 q_4.1 1 k_v0 q_4.2 h
    · replace h := kf_iff c_5 h
      refine wa_bipush (-2) bp_m2 E d_X12_rubs_24 ?_
      cases h
      exact wa_iret E d_X12_rubs_26
  · replace h := kf_ift c_2 h
    refine wa_iconst (-1) ic_m1 E d_X12_rubs_8 ?_
    cases h
    exact wa_iret E d_X12_rubs_9
/-! X12_when -/
theorem d_X12_when_0 : kf_dq cX12_when 0 1 1 (.aload_n 0) := ⟨by decide +kernel, rfl⟩
theorem d_X12_when_1 : kf_dq cX12_when 1 2 1 (.iload_n 1) := ⟨by decide +kernel, rfl⟩
theorem d_X12_when_2 : kf_dq cX12_when 2 3 1 (.iload_n 2) := ⟨by decide +kernel, rfl⟩
theorem d_X12_when_3 : kf_dq cX12_when 3 6 3 (.invokevirtual 399) := ⟨by decide +kernel, rfl⟩
theorem d_X12_when_6 : kf_dj cX12_when 6 9 11 (.ifCond .ne) := ⟨5, by decide +kernel, rfl, by decide⟩
theorem d_X12_when_9 : kf_dq cX12_when 9 10 1 (.iconst (-1)) := ⟨by decide +kernel, rfl⟩
theorem d_X12_when_10 : kf_dq cX12_when 10 11 1 (.ireturn) := ⟨by decide +kernel, rfl⟩
theorem d_X12_when_11 : kf_dq cX12_when 11 12 1 (.aload_n 0) := ⟨by decide +kernel, rfl⟩
theorem d_X12_when_12 : kf_dq cX12_when 12 15 3 (.invokevirtual 430) := ⟨by decide +kernel, rfl⟩
theorem d_X12_when_15 : kf_dq cX12_when 15 16 1 (.iconst 0) := ⟨by decide +kernel, rfl⟩
theorem d_X12_when_16 : kf_dq cX12_when 16 17 1 (.istore_n 3) := ⟨by decide +kernel, rfl⟩
theorem d_X12_when_17 : kf_dq cX12_when 17 18 1 (.iload_n 3) := ⟨by decide +kernel, rfl⟩
theorem d_X12_when_18 : kf_dq cX12_when 18 20 2 (.bipush 60) := ⟨by decide +kernel, rfl⟩
theorem d_X12_when_20 : kf_dj cX12_when 20 23 44 (.if_icmp .gt) := ⟨24, by decide +kernel, rfl, by decide⟩
theorem d_X12_when_23 : kf_dq cX12_when 23 24 1 (.aload_n 0) := ⟨by decide +kernel, rfl⟩
theorem d_X12_when_24 : kf_dq cX12_when 24 25 1 (.iload_n 1) := ⟨by decide +kernel, rfl⟩
theorem d_X12_when_25 : kf_dq cX12_when 25 28 3 (.invokevirtual 390) := ⟨by decide +kernel, rfl⟩
theorem d_X12_when_28 : kf_dq cX12_when 28 29 1 (.iload_n 2) := ⟨by decide +kernel, rfl⟩
theorem d_X12_when_29 : kf_dj cX12_when 29 32 34 (.if_icmp .ne) := ⟨5, by decide +kernel, rfl, by decide⟩
theorem d_X12_when_32 : kf_dq cX12_when 32 33 1 (.iload_n 3) := ⟨by decide +kernel, rfl⟩
theorem d_X12_when_33 : kf_dq cX12_when 33 34 1 (.ireturn) := ⟨by decide +kernel, rfl⟩
theorem d_X12_when_34 : kf_dq cX12_when 34 35 1 (.aload_n 0) := ⟨by decide +kernel, rfl⟩
theorem d_X12_when_35 : kf_dq cX12_when 35 38 3 (.invokevirtual 384) := ⟨by decide +kernel, rfl⟩
theorem d_X12_when_38 : kf_dq cX12_when 38 41 3 (.iinc 3 1) := ⟨by decide +kernel, rfl⟩
theorem d_X12_when_41 : kf_dj cX12_when 41 44 17 .goto := ⟨(-24), by decide +kernel, rfl, by decide⟩
theorem d_X12_when_44 : kf_dq cX12_when 44 46 2 (.bipush (-2)) := ⟨by decide +kernel, rfl⟩
theorem d_X12_when_46 : kf_dq cX12_when 46 47 1 (.ireturn) := ⟨by decide +kernel, rfl⟩
def f_X12_when_17_s (rec17 : Nat → Int32 → Int32 → Int32 → kf_St → Option (Int32 × kf_St)) (v0 : Nat) (v1 : Int32) (v2 : Int32) (v3 : Int32) (σ : kf_St) : Option (Int32 × kf_St) :=
  if 60 < v3 then
    some ((-2), σ)
  else
    (f_X12_knownBy v0 v1 σ).bind fun q_2 =>
    if q_2.1 = v2 then
      some (v3, q_2.2)
    else
      (f_X12_dayGoes v0 q_2.2).bind fun q_4 =>
      kf_lt (v3 + 1) fun v3_5 =>
      rec17 v0 v1 v2 v3_5 q_4
def f_X12_when_17 : Nat → Nat → Int32 → Int32 → Int32 → kf_St → Option (Int32 × kf_St)
  | 0, _, _, _, _, _ => none
  | n + 1, v0, v1, v2, v3, σ => f_X12_when_17_s (f_X12_when_17 n) v0 v1 v2 v3 σ
set_option maxRecDepth 100000 in
set_option maxHeartbeats 4000000 in
theorem b_X12_when_17_s {X : kf_X} {G : kf_G} (rec17 : Nat → Int32 → Int32 → Int32 → kf_St → Option (Int32 × kf_St)) {q : (Int32 × kf_St)} (E : kf_ok X G cX12_when RX12 4 (some .int) (6)) (hty : kf_wt G) (hrec17 : ∀ (v0 : Nat) (v1 : Int32) (v2 : Int32) (v3 : Int32) (k_v0 : kf_kd G v0 = 13) (σ : kf_St), rec17 v0 v1 v2 v3 σ = some q → kf_WA X G 4 (kf_Q X G (some (.int q.1)) q.2) 17 [(0, .ref (kf_ad G v0)), (1, .int v1), (2, .int v2), (3, .int v3)] [] σ) (v0 : Nat) (v1 : Int32) (v2 : Int32) (v3 : Int32) (k_v0 : kf_kd G v0 = 13) (σ : kf_St) (h : f_X12_when_17_s rec17 v0 v1 v2 v3 σ = some q) : kf_WA X G 4 (kf_Q X G (some (.int q.1)) q.2) 17 [(0, .ref (kf_ad G v0)), (1, .int v1), (2, .int v2), (3, .int v3)] [] σ := by
  unfold f_X12_when_17_s at h
  refine wa_iload_n 3 rfl E d_X12_when_17 ?_
  refine wa_bipush 60 bp_60 E d_X12_when_18 ?_
  refine wa_icmp_gt E d_X12_when_20 (fun c_1 => ?_) (fun c_1 => ?_)
  · replace h := kf_ift c_1 h
    refine wa_bipush (-2) bp_m2 E d_X12_when_44 ?_
    cases h
    exact wa_iret E d_X12_when_46
  · replace h := kf_iff c_1 h
    refine wa_aload_n 0 rfl E d_X12_when_23 ?_
    refine wa_iload_n 1 rfl E d_X12_when_24 ?_
    obtain ⟨q_2, hq_2, h⟩ := kf_bd h
    refine wa_callV (st2 := [.int q_2.1]) (c_X12_knownBy hty v0 v1 k_v0 σ hq_2) mv_X12_knownBy ml_X12_390 k_v0 rfl (Nat.le_of_ble_eq_true rfl) rfl (Nat.le_of_ble_eq_true rfl) E d_X12_when_25 rfl ?_
    refine wa_iload_n 2 rfl E d_X12_when_28 ?_
    refine wa_icmp_ne E d_X12_when_29 (fun c_3 => ?_) (fun c_3 => ?_)
    · replace h := kf_iff c_3 h
      refine wa_aload_n 0 rfl E d_X12_when_34 ?_
      obtain ⟨q_4, hq_4, h⟩ := kf_bd h
      refine wa_callV (st2 := []) (c_X12_dayGoes hty v0 k_v0 q_2.2 hq_4) mv_X12_dayGoes ml_X12_384 k_v0 rfl (Nat.le_of_ble_eq_true rfl) rfl (Nat.le_of_ble_eq_true rfl) E d_X12_when_35 rfl ?_
      obtain ⟨v3_5, ev3_5, h⟩ := kf_lte h
      refine wa_iinc (lv' := [(3, .int v3_5), (0, .ref (kf_ad G v0)), (1, .int v1), (2, .int v2)]) v3_5 3 rfl (kf_inc ic_1 ev3_5) (by decide) rfl E d_X12_when_38 ?_
      refine wa_goto E d_X12_when_41 ?_
      refine wa_sub [1, 2, 3, 0] rfl ?_
      exact hrec17 v0 v1 v2 v3_5 k_v0 q_4 h
    · replace h := kf_ift c_3 h
      refine wa_iload_n 3 rfl E d_X12_when_32 ?_
      cases h
      exact wa_iret E d_X12_when_33
theorem b_X12_when_17 {X : kf_X} {G : kf_G} {q : (Int32 × kf_St)} (E : kf_ok X G cX12_when RX12 4 (some .int) (6)) (hty : kf_wt G) : ∀ (N : Nat) (v0 : Nat) (v1 : Int32) (v2 : Int32) (v3 : Int32) (k_v0 : kf_kd G v0 = 13) (σ : kf_St) (_ : f_X12_when_17 N v0 v1 v2 v3 σ = some q), kf_WA X G 4 (kf_Q X G (some (.int q.1)) q.2) 17 [(0, .ref (kf_ad G v0)), (1, .int v1), (2, .int v2), (3, .int v3)] [] σ
  | 0, _, _, _, _, _, _, h => by cases h
  | N + 1, v0, v1, v2, v3, k_v0, σ, h => b_X12_when_17_s _ E hty (b_X12_when_17 E hty N) v0 v1 v2 v3 k_v0 σ h
def f_X12_when (v0 : Nat) (v1 : Int32) (v2 : Int32) (σ : kf_St) : Option (Int32 × kf_St) :=
  (f_X12_areBoth v0 v1 v2 σ).bind fun q_1 =>
  if q_1.1 = 0 then
    some ((-1), q_1.2)
  else
    (f_X12_copiesStill v0 q_1.2).bind fun q_3 =>
    f_X12_when_17 kf_F v0 v1 v2 0 q_3
set_option maxRecDepth 100000 in
set_option maxHeartbeats 4000000 in
theorem c_X12_when {G : kf_G} (hty : kf_wt G) (v0 : Nat) (v1 : Int32) (v2 : Int32) (k_v0 : kf_kd G v0 = 13) (σ : kf_St) {q : (Int32 × kf_St)} (h : f_X12_when v0 v1 v2 σ = some q) : kf_Ct (6) yX12_when cX12_when 4 (some .int) G [.ref (kf_ad G v0), .int v1, .int v2] σ (some (.int q.1)) q.2 := by
  refine kf_Ct.of hty.1 (lv := [(0, .ref (kf_ad G v0)), (1, .int v1), (2, .int v2)]) (by decide +kernel) rfl (Nat.le_of_ble_eq_true rfl) (fun X E => ?_)
  unfold f_X12_when at h
  refine wa_aload_n 0 rfl E d_X12_when_0 ?_
  refine wa_iload_n 1 rfl E d_X12_when_1 ?_
  refine wa_iload_n 2 rfl E d_X12_when_2 ?_
  obtain ⟨q_1, hq_1, h⟩ := kf_bd h
  refine wa_callV (st2 := [.int q_1.1]) (c_X12_areBoth hty v0 v1 v2 k_v0 σ hq_1) mv_X12_areBoth ml_X12_399 k_v0 rfl (Nat.le_of_ble_eq_true rfl) rfl (Nat.le_of_ble_eq_true rfl) E d_X12_when_3 rfl ?_
  refine wa_if_ne E d_X12_when_6 (fun c_2 => ?_) (fun c_2 => ?_)
  · replace h := kf_iff c_2 h
    refine wa_aload_n 0 rfl E d_X12_when_11 ?_
    obtain ⟨q_3, hq_3, h⟩ := kf_bd h
    refine wa_callV (st2 := []) (c_X12_copiesStill hty v0 k_v0 q_1.2 hq_3) mv_X12_copiesStill ml_X12_430 k_v0 rfl (Nat.le_of_ble_eq_true rfl) rfl (Nat.le_of_ble_eq_true rfl) E d_X12_when_12 rfl ?_
    refine wa_iconst 0 ic_0 E d_X12_when_15 ?_
    refine wa_istore_n (lv' := [(3, .int 0), (0, .ref (kf_ad G v0)), (1, .int v1), (2, .int v2)]) rfl (by decide) rfl E d_X12_when_16 ?_
    refine wa_sub [1, 2, 3, 0] rfl ?_
    exact b_X12_when_17 E hty kf_F v0 v1 v2 0 k_v0 q_3 h
  · replace h := kf_ift c_2 h
    refine wa_iconst (-1) ic_m1 E d_X12_when_9 ?_
    cases h
    exact wa_iret E d_X12_when_10
/-! X12_alone -/
theorem d_X12_alone_0 : kf_dq cX12_alone 0 1 1 (.aload_n 0) := ⟨by decide +kernel, rfl⟩
theorem d_X12_alone_1 : kf_dq cX12_alone 1 2 1 (.iload_n 1) := ⟨by decide +kernel, rfl⟩
theorem d_X12_alone_2 : kf_dq cX12_alone 2 3 1 (.iload_n 2) := ⟨by decide +kernel, rfl⟩
theorem d_X12_alone_3 : kf_dq cX12_alone 3 6 3 (.invokevirtual 399) := ⟨by decide +kernel, rfl⟩
theorem d_X12_alone_6 : kf_dj cX12_alone 6 9 11 (.ifCond .ne) := ⟨5, by decide +kernel, rfl, by decide⟩
theorem d_X12_alone_9 : kf_dq cX12_alone 9 10 1 (.iconst (-1)) := ⟨by decide +kernel, rfl⟩
theorem d_X12_alone_10 : kf_dq cX12_alone 10 11 1 (.ireturn) := ⟨by decide +kernel, rfl⟩
theorem d_X12_alone_11 : kf_dq cX12_alone 11 12 1 (.aload_n 0) := ⟨by decide +kernel, rfl⟩
theorem d_X12_alone_12 : kf_dq cX12_alone 12 15 3 (.invokevirtual 323) := ⟨by decide +kernel, rfl⟩
theorem d_X12_alone_15 : kf_dq cX12_alone 15 16 1 (.iconst 0) := ⟨by decide +kernel, rfl⟩
theorem d_X12_alone_16 : kf_dq cX12_alone 16 17 1 (.istore_n 3) := ⟨by decide +kernel, rfl⟩
theorem d_X12_alone_17 : kf_dq cX12_alone 17 18 1 (.iload_n 3) := ⟨by decide +kernel, rfl⟩
theorem d_X12_alone_18 : kf_dq cX12_alone 18 20 2 (.bipush 60) := ⟨by decide +kernel, rfl⟩
theorem d_X12_alone_20 : kf_dj cX12_alone 20 23 46 (.if_icmp .gt) := ⟨26, by decide +kernel, rfl, by decide⟩
theorem d_X12_alone_23 : kf_dq cX12_alone 23 24 1 (.aload_n 0) := ⟨by decide +kernel, rfl⟩
theorem d_X12_alone_24 : kf_dq cX12_alone 24 25 1 (.iload_n 1) := ⟨by decide +kernel, rfl⟩
theorem d_X12_alone_25 : kf_dq cX12_alone 25 28 3 (.invokevirtual 390) := ⟨by decide +kernel, rfl⟩
theorem d_X12_alone_28 : kf_dq cX12_alone 28 29 1 (.iload_n 2) := ⟨by decide +kernel, rfl⟩
theorem d_X12_alone_29 : kf_dj cX12_alone 29 32 34 (.if_icmp .ne) := ⟨5, by decide +kernel, rfl, by decide⟩
theorem d_X12_alone_32 : kf_dq cX12_alone 32 33 1 (.iload_n 3) := ⟨by decide +kernel, rfl⟩
theorem d_X12_alone_33 : kf_dq cX12_alone 33 34 1 (.ireturn) := ⟨by decide +kernel, rfl⟩
theorem d_X12_alone_34 : kf_dq cX12_alone 34 35 1 (.aload_n 0) := ⟨by decide +kernel, rfl⟩
theorem d_X12_alone_35 : kf_dq cX12_alone 35 36 1 (.iload_n 1) := ⟨by decide +kernel, rfl⟩
theorem d_X12_alone_36 : kf_dq cX12_alone 36 37 1 (.iload_n 2) := ⟨by decide +kernel, rfl⟩
theorem d_X12_alone_37 : kf_dq cX12_alone 37 40 3 (.invokevirtual 374) := ⟨by decide +kernel, rfl⟩
theorem d_X12_alone_40 : kf_dq cX12_alone 40 43 3 (.iinc 3 1) := ⟨by decide +kernel, rfl⟩
theorem d_X12_alone_43 : kf_dj cX12_alone 43 46 17 .goto := ⟨(-26), by decide +kernel, rfl, by decide⟩
theorem d_X12_alone_46 : kf_dq cX12_alone 46 48 2 (.bipush (-2)) := ⟨by decide +kernel, rfl⟩
theorem d_X12_alone_48 : kf_dq cX12_alone 48 49 1 (.ireturn) := ⟨by decide +kernel, rfl⟩
def f_X12_alone_17_s (rec17 : Nat → Int32 → Int32 → Int32 → kf_St → Option (Int32 × kf_St)) (v0 : Nat) (v1 : Int32) (v2 : Int32) (v3 : Int32) (σ : kf_St) : Option (Int32 × kf_St) :=
  if 60 < v3 then
    some ((-2), σ)
  else
    (f_X12_knownBy v0 v1 σ).bind fun q_2 =>
    if q_2.1 = v2 then
      some (v3, q_2.2)
    else
      (f_X12_lifted v0 v1 v2 q_2.2).bind fun q_4 =>
      kf_lt (v3 + 1) fun v3_5 =>
      rec17 v0 v1 v2 v3_5 q_4
def f_X12_alone_17 : Nat → Nat → Int32 → Int32 → Int32 → kf_St → Option (Int32 × kf_St)
  | 0, _, _, _, _, _ => none
  | n + 1, v0, v1, v2, v3, σ => f_X12_alone_17_s (f_X12_alone_17 n) v0 v1 v2 v3 σ
set_option maxRecDepth 100000 in
set_option maxHeartbeats 4000000 in
theorem b_X12_alone_17_s {X : kf_X} {G : kf_G} (rec17 : Nat → Int32 → Int32 → Int32 → kf_St → Option (Int32 × kf_St)) {q : (Int32 × kf_St)} (E : kf_ok X G cX12_alone RX12 4 (some .int) (5)) (hty : kf_wt G) (hrec17 : ∀ (v0 : Nat) (v1 : Int32) (v2 : Int32) (v3 : Int32) (k_v0 : kf_kd G v0 = 13) (σ : kf_St), rec17 v0 v1 v2 v3 σ = some q → kf_WA X G 4 (kf_Q X G (some (.int q.1)) q.2) 17 [(0, .ref (kf_ad G v0)), (1, .int v1), (2, .int v2), (3, .int v3)] [] σ) (v0 : Nat) (v1 : Int32) (v2 : Int32) (v3 : Int32) (k_v0 : kf_kd G v0 = 13) (σ : kf_St) (h : f_X12_alone_17_s rec17 v0 v1 v2 v3 σ = some q) : kf_WA X G 4 (kf_Q X G (some (.int q.1)) q.2) 17 [(0, .ref (kf_ad G v0)), (1, .int v1), (2, .int v2), (3, .int v3)] [] σ := by
  unfold f_X12_alone_17_s at h
  refine wa_iload_n 3 rfl E d_X12_alone_17 ?_
  refine wa_bipush 60 bp_60 E d_X12_alone_18 ?_
  refine wa_icmp_gt E d_X12_alone_20 (fun c_1 => ?_) (fun c_1 => ?_)
  · replace h := kf_ift c_1 h
    refine wa_bipush (-2) bp_m2 E d_X12_alone_46 ?_
    cases h
    exact wa_iret E d_X12_alone_48
  · replace h := kf_iff c_1 h
    refine wa_aload_n 0 rfl E d_X12_alone_23 ?_
    refine wa_iload_n 1 rfl E d_X12_alone_24 ?_
    obtain ⟨q_2, hq_2, h⟩ := kf_bd h
    refine wa_callV (st2 := [.int q_2.1]) (c_X12_knownBy hty v0 v1 k_v0 σ hq_2) mv_X12_knownBy ml_X12_390 k_v0 rfl (Nat.le_of_ble_eq_true rfl) rfl (Nat.le_of_ble_eq_true rfl) E d_X12_alone_25 rfl ?_
    refine wa_iload_n 2 rfl E d_X12_alone_28 ?_
    refine wa_icmp_ne E d_X12_alone_29 (fun c_3 => ?_) (fun c_3 => ?_)
    · replace h := kf_iff c_3 h
      refine wa_aload_n 0 rfl E d_X12_alone_34 ?_
      refine wa_iload_n 1 rfl E d_X12_alone_35 ?_
      refine wa_iload_n 2 rfl E d_X12_alone_36 ?_
      obtain ⟨q_4, hq_4, h⟩ := kf_bd h
      refine wa_callV (st2 := []) (c_X12_lifted hty v0 v1 v2 k_v0 q_2.2 hq_4) mv_X12_lifted ml_X12_374 k_v0 rfl (Nat.le_of_ble_eq_true rfl) rfl (Nat.le_of_ble_eq_true rfl) E d_X12_alone_37 rfl ?_
      obtain ⟨v3_5, ev3_5, h⟩ := kf_lte h
      refine wa_iinc (lv' := [(3, .int v3_5), (0, .ref (kf_ad G v0)), (1, .int v1), (2, .int v2)]) v3_5 3 rfl (kf_inc ic_1 ev3_5) (by decide) rfl E d_X12_alone_40 ?_
      refine wa_goto E d_X12_alone_43 ?_
      refine wa_sub [1, 2, 3, 0] rfl ?_
      exact hrec17 v0 v1 v2 v3_5 k_v0 q_4 h
    · replace h := kf_ift c_3 h
      refine wa_iload_n 3 rfl E d_X12_alone_32 ?_
      cases h
      exact wa_iret E d_X12_alone_33
theorem b_X12_alone_17 {X : kf_X} {G : kf_G} {q : (Int32 × kf_St)} (E : kf_ok X G cX12_alone RX12 4 (some .int) (5)) (hty : kf_wt G) : ∀ (N : Nat) (v0 : Nat) (v1 : Int32) (v2 : Int32) (v3 : Int32) (k_v0 : kf_kd G v0 = 13) (σ : kf_St) (_ : f_X12_alone_17 N v0 v1 v2 v3 σ = some q), kf_WA X G 4 (kf_Q X G (some (.int q.1)) q.2) 17 [(0, .ref (kf_ad G v0)), (1, .int v1), (2, .int v2), (3, .int v3)] [] σ
  | 0, _, _, _, _, _, _, h => by cases h
  | N + 1, v0, v1, v2, v3, k_v0, σ, h => b_X12_alone_17_s _ E hty (b_X12_alone_17 E hty N) v0 v1 v2 v3 k_v0 σ h
def f_X12_alone (v0 : Nat) (v1 : Int32) (v2 : Int32) (σ : kf_St) : Option (Int32 × kf_St) :=
  (f_X12_areBoth v0 v1 v2 σ).bind fun q_1 =>
  if q_1.1 = 0 then
    some ((-1), q_1.2)
  else
    (f_X12_copies v0 q_1.2).bind fun q_3 =>
    f_X12_alone_17 kf_F v0 v1 v2 0 q_3
set_option maxRecDepth 100000 in
set_option maxHeartbeats 4000000 in
theorem c_X12_alone {G : kf_G} (hty : kf_wt G) (v0 : Nat) (v1 : Int32) (v2 : Int32) (k_v0 : kf_kd G v0 = 13) (σ : kf_St) {q : (Int32 × kf_St)} (h : f_X12_alone v0 v1 v2 σ = some q) : kf_Ct (5) yX12_alone cX12_alone 4 (some .int) G [.ref (kf_ad G v0), .int v1, .int v2] σ (some (.int q.1)) q.2 := by
  refine kf_Ct.of hty.1 (lv := [(0, .ref (kf_ad G v0)), (1, .int v1), (2, .int v2)]) (by decide +kernel) rfl (Nat.le_of_ble_eq_true rfl) (fun X E => ?_)
  unfold f_X12_alone at h
  refine wa_aload_n 0 rfl E d_X12_alone_0 ?_
  refine wa_iload_n 1 rfl E d_X12_alone_1 ?_
  refine wa_iload_n 2 rfl E d_X12_alone_2 ?_
  obtain ⟨q_1, hq_1, h⟩ := kf_bd h
  refine wa_callV (st2 := [.int q_1.1]) (c_X12_areBoth hty v0 v1 v2 k_v0 σ hq_1) mv_X12_areBoth ml_X12_399 k_v0 rfl (Nat.le_of_ble_eq_true rfl) rfl (Nat.le_of_ble_eq_true rfl) E d_X12_alone_3 rfl ?_
  refine wa_if_ne E d_X12_alone_6 (fun c_2 => ?_) (fun c_2 => ?_)
  · replace h := kf_iff c_2 h
    refine wa_aload_n 0 rfl E d_X12_alone_11 ?_
    obtain ⟨q_3, hq_3, h⟩ := kf_bd h
    refine wa_callV (st2 := []) (c_X12_copies hty v0 k_v0 q_1.2 hq_3) mv_X12_copies ml_X12_323 k_v0 rfl (Nat.le_of_ble_eq_true rfl) rfl (Nat.le_of_ble_eq_true rfl) E d_X12_alone_12 rfl ?_
    refine wa_iconst 0 ic_0 E d_X12_alone_15 ?_
    refine wa_istore_n (lv' := [(3, .int 0), (0, .ref (kf_ad G v0)), (1, .int v1), (2, .int v2)]) rfl (by decide) rfl E d_X12_alone_16 ?_
    refine wa_sub [1, 2, 3, 0] rfl ?_
    exact b_X12_alone_17 E hty kf_F v0 v1 v2 0 k_v0 q_3 h
  · replace h := kf_ift c_2 h
    refine wa_iconst (-1) ic_m1 E d_X12_alone_9 ?_
    cases h
    exact wa_iret E d_X12_alone_10
/-! X12_nearest -/
theorem d_X12_nearest_0 : kf_dq cX12_nearest 0 1 1 (.aload_n 0) := ⟨by decide +kernel, rfl⟩
theorem d_X12_nearest_1 : kf_dq cX12_nearest 1 2 1 (.iload_n 1) := ⟨by decide +kernel, rfl⟩
theorem d_X12_nearest_2 : kf_dq cX12_nearest 2 5 3 (.invokevirtual 387) := ⟨by decide +kernel, rfl⟩
theorem d_X12_nearest_5 : kf_dj cX12_nearest 5 8 15 (.ifCond .eq) := ⟨10, by decide +kernel, rfl, by decide⟩
theorem d_X12_nearest_8 : kf_dq cX12_nearest 8 9 1 (.iload_n 2) := ⟨by decide +kernel, rfl⟩
theorem d_X12_nearest_9 : kf_dq cX12_nearest 9 12 3 (.invokestatic 408) := ⟨by decide +kernel, rfl⟩
theorem d_X12_nearest_12 : kf_dj cX12_nearest 12 15 17 (.ifCond .ne) := ⟨5, by decide +kernel, rfl, by decide⟩
theorem d_X12_nearest_15 : kf_dq cX12_nearest 15 16 1 (.iconst (-1)) := ⟨by decide +kernel, rfl⟩
theorem d_X12_nearest_16 : kf_dq cX12_nearest 16 17 1 (.ireturn) := ⟨by decide +kernel, rfl⟩
theorem d_X12_nearest_17 : kf_dq cX12_nearest 17 19 2 (.bipush (-2)) := ⟨by decide +kernel, rfl⟩
theorem d_X12_nearest_19 : kf_dq cX12_nearest 19 20 1 (.istore_n 3) := ⟨by decide +kernel, rfl⟩
theorem d_X12_nearest_20 : kf_dq cX12_nearest 20 21 1 (.iconst 0) := ⟨by decide +kernel, rfl⟩
theorem d_X12_nearest_21 : kf_dq cX12_nearest 21 23 2 (.istore 4) := ⟨by decide +kernel, rfl⟩
theorem d_X12_nearest_23 : kf_dq cX12_nearest 23 25 2 (.iload 4) := ⟨by decide +kernel, rfl⟩
theorem d_X12_nearest_25 : kf_dq cX12_nearest 25 26 1 (.aload_n 0) := ⟨by decide +kernel, rfl⟩
theorem d_X12_nearest_26 : kf_dq cX12_nearest 26 29 3 (.getfield 52) := ⟨by decide +kernel, rfl⟩
theorem d_X12_nearest_29 : kf_dq cX12_nearest 29 30 1 (.aload_n 0) := ⟨by decide +kernel, rfl⟩
theorem d_X12_nearest_30 : kf_dq cX12_nearest 30 33 3 (.getfield 233) := ⟨by decide +kernel, rfl⟩
theorem d_X12_nearest_33 : kf_dq cX12_nearest 33 34 1 (.iaload) := ⟨by decide +kernel, rfl⟩
theorem d_X12_nearest_34 : kf_dj cX12_nearest 34 37 92 (.if_icmp .ge) := ⟨58, by decide +kernel, rfl, by decide⟩
theorem d_X12_nearest_37 : kf_dq cX12_nearest 37 38 1 (.iload_n 3) := ⟨by decide +kernel, rfl⟩
theorem d_X12_nearest_38 : kf_dj cX12_nearest 38 41 83 (.ifCond .lt) := ⟨45, by decide +kernel, rfl, by decide⟩
theorem d_X12_nearest_41 : kf_dq cX12_nearest 41 42 1 (.aload_n 0) := ⟨by decide +kernel, rfl⟩
theorem d_X12_nearest_42 : kf_dq cX12_nearest 42 45 3 (.getfield 119) := ⟨by decide +kernel, rfl⟩
theorem d_X12_nearest_45 : kf_dq cX12_nearest 45 46 1 (.iconst 4) := ⟨by decide +kernel, rfl⟩
theorem d_X12_nearest_46 : kf_dq cX12_nearest 46 47 1 (.iload_n 1) := ⟨by decide +kernel, rfl⟩
theorem d_X12_nearest_47 : kf_dq cX12_nearest 47 48 1 (.imul) := ⟨by decide +kernel, rfl⟩
theorem d_X12_nearest_48 : kf_dq cX12_nearest 48 49 1 (.iload_n 2) := ⟨by decide +kernel, rfl⟩
theorem d_X12_nearest_49 : kf_dq cX12_nearest 49 50 1 (.iadd) := ⟨by decide +kernel, rfl⟩
theorem d_X12_nearest_50 : kf_dq cX12_nearest 50 51 1 (.iaload) := ⟨by decide +kernel, rfl⟩
theorem d_X12_nearest_51 : kf_dq cX12_nearest 51 52 1 (.aload_n 0) := ⟨by decide +kernel, rfl⟩
theorem d_X12_nearest_52 : kf_dq cX12_nearest 52 54 2 (.iload 4) := ⟨by decide +kernel, rfl⟩
theorem d_X12_nearest_54 : kf_dq cX12_nearest 54 55 1 (.iload_n 2) := ⟨by decide +kernel, rfl⟩
theorem d_X12_nearest_55 : kf_dq cX12_nearest 55 58 3 (.invokevirtual 333) := ⟨by decide +kernel, rfl⟩
theorem d_X12_nearest_58 : kf_dq cX12_nearest 58 61 3 (.invokestatic 336) := ⟨by decide +kernel, rfl⟩
theorem d_X12_nearest_61 : kf_dq cX12_nearest 61 62 1 (.aload_n 0) := ⟨by decide +kernel, rfl⟩
theorem d_X12_nearest_62 : kf_dq cX12_nearest 62 65 3 (.getfield 119) := ⟨by decide +kernel, rfl⟩
theorem d_X12_nearest_65 : kf_dq cX12_nearest 65 66 1 (.iconst 4) := ⟨by decide +kernel, rfl⟩
theorem d_X12_nearest_66 : kf_dq cX12_nearest 66 67 1 (.iload_n 1) := ⟨by decide +kernel, rfl⟩
theorem d_X12_nearest_67 : kf_dq cX12_nearest 67 68 1 (.imul) := ⟨by decide +kernel, rfl⟩
theorem d_X12_nearest_68 : kf_dq cX12_nearest 68 69 1 (.iload_n 2) := ⟨by decide +kernel, rfl⟩
theorem d_X12_nearest_69 : kf_dq cX12_nearest 69 70 1 (.iadd) := ⟨by decide +kernel, rfl⟩
theorem d_X12_nearest_70 : kf_dq cX12_nearest 70 71 1 (.iaload) := ⟨by decide +kernel, rfl⟩
theorem d_X12_nearest_71 : kf_dq cX12_nearest 71 72 1 (.aload_n 0) := ⟨by decide +kernel, rfl⟩
theorem d_X12_nearest_72 : kf_dq cX12_nearest 72 73 1 (.iload_n 3) := ⟨by decide +kernel, rfl⟩
theorem d_X12_nearest_73 : kf_dq cX12_nearest 73 74 1 (.iload_n 2) := ⟨by decide +kernel, rfl⟩
theorem d_X12_nearest_74 : kf_dq cX12_nearest 74 77 3 (.invokevirtual 333) := ⟨by decide +kernel, rfl⟩
theorem d_X12_nearest_77 : kf_dq cX12_nearest 77 80 3 (.invokestatic 336) := ⟨by decide +kernel, rfl⟩
theorem d_X12_nearest_80 : kf_dj cX12_nearest 80 83 86 (.if_icmp .ge) := ⟨6, by decide +kernel, rfl, by decide⟩
theorem d_X12_nearest_83 : kf_dq cX12_nearest 83 85 2 (.iload 4) := ⟨by decide +kernel, rfl⟩
theorem d_X12_nearest_85 : kf_dq cX12_nearest 85 86 1 (.istore_n 3) := ⟨by decide +kernel, rfl⟩
theorem d_X12_nearest_86 : kf_dq cX12_nearest 86 89 3 (.iinc 4 1) := ⟨by decide +kernel, rfl⟩
theorem d_X12_nearest_89 : kf_dj cX12_nearest 89 92 23 .goto := ⟨(-66), by decide +kernel, rfl, by decide⟩
theorem d_X12_nearest_92 : kf_dq cX12_nearest 92 93 1 (.iload_n 3) := ⟨by decide +kernel, rfl⟩
theorem d_X12_nearest_93 : kf_dq cX12_nearest 93 94 1 (.ireturn) := ⟨by decide +kernel, rfl⟩
def f_X12_nearest_86 (rec23 : Nat → Int32 → Int32 → Int32 → Int32 → kf_St → Option (Int32 × kf_St)) (v0 : Nat) (v1 : Int32) (v2 : Int32) (v3 : Int32) (v4 : Int32) (σ : kf_St) : Option (Int32 × kf_St) :=
  kf_lt (v4 + 1) fun v4_1 =>
  rec23 v0 v1 v2 v3 v4_1 σ
set_option maxRecDepth 100000 in
set_option maxHeartbeats 4000000 in
theorem b_X12_nearest_86 {X : kf_X} {G : kf_G} {rec23 : Nat → Int32 → Int32 → Int32 → Int32 → kf_St → Option (Int32 × kf_St)} {q : (Int32 × kf_St)} (E : kf_ok X G cX12_nearest RX12 5 (some .int) (3)) (hty : kf_wt G) (hrec23 : ∀ (v0 : Nat) (v1 : Int32) (v2 : Int32) (v3 : Int32) (v4 : Int32) (k_v0 : kf_kd G v0 = 13) (σ : kf_St), rec23 v0 v1 v2 v3 v4 σ = some q → kf_WA X G 5 (kf_Q X G (some (.int q.1)) q.2) 23 [(0, .ref (kf_ad G v0)), (1, .int v1), (2, .int v2), (3, .int v3), (4, .int v4)] [] σ) (v0 : Nat) (v1 : Int32) (v2 : Int32) (v3 : Int32) (v4 : Int32) (k_v0 : kf_kd G v0 = 13) (σ : kf_St) (h : f_X12_nearest_86 rec23 v0 v1 v2 v3 v4 σ = some q) : kf_WA X G 5 (kf_Q X G (some (.int q.1)) q.2) 86 [(0, .ref (kf_ad G v0)), (1, .int v1), (2, .int v2), (3, .int v3), (4, .int v4)] [] σ := by
  unfold f_X12_nearest_86 at h
  obtain ⟨v4_1, ev4_1, h⟩ := kf_lte h
  refine wa_iinc (lv' := [(4, .int v4_1), (0, .ref (kf_ad G v0)), (1, .int v1), (2, .int v2), (3, .int v3)]) v4_1 4 rfl (kf_inc ic_1 ev4_1) (by decide) rfl E d_X12_nearest_86 ?_
  refine wa_goto E d_X12_nearest_89 ?_
  refine wa_sub [1, 2, 3, 4, 0] rfl ?_
  exact hrec23 v0 v1 v2 v3 v4_1 k_v0 σ h
def f_X12_nearest_83 (rec23 : Nat → Int32 → Int32 → Int32 → Int32 → kf_St → Option (Int32 × kf_St)) (v0 : Nat) (v1 : Int32) (v2 : Int32) (v4 : Int32) (σ : kf_St) : Option (Int32 × kf_St) :=
  f_X12_nearest_86 rec23 v0 v1 v2 v4 v4 σ
set_option maxRecDepth 100000 in
set_option maxHeartbeats 4000000 in
theorem b_X12_nearest_83 {X : kf_X} {G : kf_G} {rec23 : Nat → Int32 → Int32 → Int32 → Int32 → kf_St → Option (Int32 × kf_St)} {q : (Int32 × kf_St)} (E : kf_ok X G cX12_nearest RX12 5 (some .int) (3)) (hty : kf_wt G) (hrec23 : ∀ (v0 : Nat) (v1 : Int32) (v2 : Int32) (v3 : Int32) (v4 : Int32) (k_v0 : kf_kd G v0 = 13) (σ : kf_St), rec23 v0 v1 v2 v3 v4 σ = some q → kf_WA X G 5 (kf_Q X G (some (.int q.1)) q.2) 23 [(0, .ref (kf_ad G v0)), (1, .int v1), (2, .int v2), (3, .int v3), (4, .int v4)] [] σ) (v0 : Nat) (v1 : Int32) (v2 : Int32) (v4 : Int32) (k_v0 : kf_kd G v0 = 13) (σ : kf_St) (h : f_X12_nearest_83 rec23 v0 v1 v2 v4 σ = some q) : kf_WA X G 5 (kf_Q X G (some (.int q.1)) q.2) 83 [(0, .ref (kf_ad G v0)), (1, .int v1), (2, .int v2), (4, .int v4)] [] σ := by
  unfold f_X12_nearest_83 at h
  refine wa_iload 3 rfl E d_X12_nearest_83 ?_
  refine wa_istore_n (lv' := [(3, .int v4), (0, .ref (kf_ad G v0)), (1, .int v1), (2, .int v2), (4, .int v4)]) rfl (by decide) rfl E d_X12_nearest_85 ?_
  refine wa_sub [1, 2, 3, 0, 4] rfl ?_
  exact b_X12_nearest_86 E hty hrec23 v0 v1 v2 v4 v4 k_v0 σ h
def f_X12_nearest_23_s (rec23 : Nat → Int32 → Int32 → Int32 → Int32 → kf_St → Option (Int32 × kf_St)) (v0 : Nat) (v1 : Int32) (v2 : Int32) (v3 : Int32) (v4 : Int32) (σ : kf_St) : Option (Int32 × kf_St) :=
  if kf_ix (σ.1 v0 18) (kf_ln (kf_rf v0 25)) = true then
  if (σ.1 (kf_rf v0 25) (Int32.toNatClampNeg (σ.1 v0 18))) ≤ v4 then
    some (v3, σ)
  else
    if v3 < 0 then
      f_X12_nearest_83 rec23 v0 v1 v2 v4 σ
    else
      if kf_ix ((4 * v1) + v2) (kf_ln (kf_rf v0 51)) = true then
      (f_X12_facePart v0 v4 v2 σ).bind fun q_5 =>
      (f_X12_off (σ.1 (kf_rf v0 51) (Int32.toNatClampNeg ((4 * v1) + v2))) q_5.1 q_5.2).bind fun q_6 =>
      if kf_ix ((4 * v1) + v2) (kf_ln (kf_rf v0 51)) = true then
      (f_X12_facePart v0 v3 v2 q_6.2).bind fun q_8 =>
      (f_X12_off (q_6.2.1 (kf_rf v0 51) (Int32.toNatClampNeg ((4 * v1) + v2))) q_8.1 q_8.2).bind fun q_9 =>
      if q_9.1 ≤ q_6.1 then
        f_X12_nearest_86 rec23 v0 v1 v2 v3 v4 q_9.2
      else
        f_X12_nearest_83 rec23 v0 v1 v2 v4 q_9.2
      else none
      else none
  else none
def f_X12_nearest_23 : Nat → Nat → Int32 → Int32 → Int32 → Int32 → kf_St → Option (Int32 × kf_St)
  | 0, _, _, _, _, _, _ => none
  | n + 1, v0, v1, v2, v3, v4, σ => f_X12_nearest_23_s (f_X12_nearest_23 n) v0 v1 v2 v3 v4 σ
set_option maxRecDepth 100000 in
set_option maxHeartbeats 4000000 in
theorem b_X12_nearest_23_s {X : kf_X} {G : kf_G} (rec23 : Nat → Int32 → Int32 → Int32 → Int32 → kf_St → Option (Int32 × kf_St)) {q : (Int32 × kf_St)} (E : kf_ok X G cX12_nearest RX12 5 (some .int) (3)) (hty : kf_wt G) (hrec23 : ∀ (v0 : Nat) (v1 : Int32) (v2 : Int32) (v3 : Int32) (v4 : Int32) (k_v0 : kf_kd G v0 = 13) (σ : kf_St), rec23 v0 v1 v2 v3 v4 σ = some q → kf_WA X G 5 (kf_Q X G (some (.int q.1)) q.2) 23 [(0, .ref (kf_ad G v0)), (1, .int v1), (2, .int v2), (3, .int v3), (4, .int v4)] [] σ) (v0 : Nat) (v1 : Int32) (v2 : Int32) (v3 : Int32) (v4 : Int32) (k_v0 : kf_kd G v0 = 13) (σ : kf_St) (h : f_X12_nearest_23_s rec23 v0 v1 v2 v3 v4 σ = some q) : kf_WA X G 5 (kf_Q X G (some (.int q.1)) q.2) 23 [(0, .ref (kf_ad G v0)), (1, .int v1), (2, .int v2), (3, .int v3), (4, .int v4)] [] σ := by
  unfold f_X12_nearest_23_s at h
  refine wa_iload 4 rfl E d_X12_nearest_23 ?_
  refine wa_aload_n 0 rfl E d_X12_nearest_25 ?_
  refine wa_getR fl_X12_52 k_v0 rfl E d_X12_nearest_26 ?_
  refine wa_aload_n 0 rfl E d_X12_nearest_29 ?_
  refine wa_getI fl_X12_233 k_v0 rfl E d_X12_nearest_30 ?_
  obtain ⟨g_1, h⟩ := kf_gd h
  refine wa_iald (kf_wtf hty 25 49 k_v0 (by decide) rfl) g_1 E d_X12_nearest_33 ?_
  refine wa_icmp_ge E d_X12_nearest_34 (fun c_2 => ?_) (fun c_2 => ?_)
  · replace h := kf_ift c_2 h
    refine wa_iload_n 3 rfl E d_X12_nearest_92 ?_
    cases h
    exact wa_iret E d_X12_nearest_93
  · replace h := kf_iff c_2 h
    refine wa_iload_n 3 rfl E d_X12_nearest_37 ?_
    refine wa_if_lt E d_X12_nearest_38 (fun c_3 => ?_) (fun c_3 => ?_)
    · replace h := kf_ift c_3 h
      refine wa_sub [0, 1, 2, 4] rfl ?_
      exact b_X12_nearest_83 E hty hrec23 v0 v1 v2 v4 k_v0 σ h
    · replace h := kf_iff c_3 h
      refine wa_aload_n 0 rfl E d_X12_nearest_41 ?_
      refine wa_getR fl_X12_119 k_v0 rfl E d_X12_nearest_42 ?_
      refine wa_iconst 4 ic_4 E d_X12_nearest_45 ?_
      refine wa_iload_n 1 rfl E d_X12_nearest_46 ?_
      refine wa_imul E d_X12_nearest_47 ?_
      refine wa_iload_n 2 rfl E d_X12_nearest_48 ?_
      refine wa_iadd E d_X12_nearest_49 ?_
      obtain ⟨g_4, h⟩ := kf_gd h
      refine wa_iald (kf_wtf hty 51 49 k_v0 (by decide) rfl) g_4 E d_X12_nearest_50 ?_
      refine wa_aload_n 0 rfl E d_X12_nearest_51 ?_
      refine wa_iload 4 rfl E d_X12_nearest_52 ?_
      refine wa_iload_n 2 rfl E d_X12_nearest_54 ?_
      obtain ⟨q_5, hq_5, h⟩ := kf_bd h
      refine wa_callV (st2 := [.int q_5.1, .int (σ.1 (kf_rf v0 51) (Int32.toNatClampNeg ((4 * v1) + v2)))]) (c_X12_facePart hty v0 v4 v2 k_v0 σ hq_5) mv_X12_facePart ml_X12_333 k_v0 rfl (Nat.le_of_ble_eq_true rfl) rfl (Nat.le_of_ble_eq_true rfl) E d_X12_nearest_55 rfl ?_
      obtain ⟨q_6, hq_6, h⟩ := kf_bd h
      refine wa_callS (st2 := [.int q_6.1]) (c_X12_off hty (σ.1 (kf_rf v0 51) (Int32.toNatClampNeg ((4 * v1) + v2))) q_5.1 q_5.2 hq_6) mt_X12_off ml_X12_336 rfl (Nat.le_of_ble_eq_true rfl) rfl (Nat.le_of_ble_eq_true rfl) E d_X12_nearest_58 rfl ?_
      refine wa_aload_n 0 rfl E d_X12_nearest_61 ?_
      refine wa_getR fl_X12_119 k_v0 rfl E d_X12_nearest_62 ?_
      refine wa_iconst 4 ic_4 E d_X12_nearest_65 ?_
      refine wa_iload_n 1 rfl E d_X12_nearest_66 ?_
      refine wa_imul E d_X12_nearest_67 ?_
      refine wa_iload_n 2 rfl E d_X12_nearest_68 ?_
      refine wa_iadd E d_X12_nearest_69 ?_
      obtain ⟨g_7, h⟩ := kf_gd h
      refine wa_iald (kf_wtf hty 51 49 k_v0 (by decide) rfl) g_7 E d_X12_nearest_70 ?_
      refine wa_aload_n 0 rfl E d_X12_nearest_71 ?_
      refine wa_iload_n 3 rfl E d_X12_nearest_72 ?_
      refine wa_iload_n 2 rfl E d_X12_nearest_73 ?_
      obtain ⟨q_8, hq_8, h⟩ := kf_bd h
      refine wa_callV (st2 := [.int q_8.1, .int (q_6.2.1 (kf_rf v0 51) (Int32.toNatClampNeg ((4 * v1) + v2))), .int q_6.1]) (c_X12_facePart hty v0 v3 v2 k_v0 q_6.2 hq_8) mv_X12_facePart ml_X12_333 k_v0 rfl (Nat.le_of_ble_eq_true rfl) rfl (Nat.le_of_ble_eq_true rfl) E d_X12_nearest_74 rfl ?_
      obtain ⟨q_9, hq_9, h⟩ := kf_bd h
      refine wa_callS (st2 := [.int q_9.1, .int q_6.1]) (c_X12_off hty (q_6.2.1 (kf_rf v0 51) (Int32.toNatClampNeg ((4 * v1) + v2))) q_8.1 q_8.2 hq_9) mt_X12_off ml_X12_336 rfl (Nat.le_of_ble_eq_true rfl) rfl (Nat.le_of_ble_eq_true rfl) E d_X12_nearest_77 rfl ?_
      refine wa_icmp_ge E d_X12_nearest_80 (fun c_10 => ?_) (fun c_10 => ?_)
      · replace h := kf_ift c_10 h
        exact b_X12_nearest_86 E hty hrec23 v0 v1 v2 v3 v4 k_v0 q_9.2 h
      · replace h := kf_iff c_10 h
        refine wa_sub [0, 1, 2, 4] rfl ?_
        exact b_X12_nearest_83 E hty hrec23 v0 v1 v2 v4 k_v0 q_9.2 h
theorem b_X12_nearest_23 {X : kf_X} {G : kf_G} {q : (Int32 × kf_St)} (E : kf_ok X G cX12_nearest RX12 5 (some .int) (3)) (hty : kf_wt G) : ∀ (N : Nat) (v0 : Nat) (v1 : Int32) (v2 : Int32) (v3 : Int32) (v4 : Int32) (k_v0 : kf_kd G v0 = 13) (σ : kf_St) (_ : f_X12_nearest_23 N v0 v1 v2 v3 v4 σ = some q), kf_WA X G 5 (kf_Q X G (some (.int q.1)) q.2) 23 [(0, .ref (kf_ad G v0)), (1, .int v1), (2, .int v2), (3, .int v3), (4, .int v4)] [] σ
  | 0, _, _, _, _, _, _, _, h => by cases h
  | N + 1, v0, v1, v2, v3, v4, k_v0, σ, h => b_X12_nearest_23_s _ E hty (b_X12_nearest_23 E hty N) v0 v1 v2 v3 v4 k_v0 σ h
def f_X12_nearest (v0 : Nat) (v1 : Int32) (v2 : Int32) (σ : kf_St) : Option (Int32 × kf_St) :=
  (f_X12_isDoor v0 v1 σ).bind fun q_1 =>
  if q_1.1 = 0 then
    some ((-1), q_1.2)
  else
    (f_X12_isPart v2 q_1.2).bind fun q_3 =>
    if q_3.1 = 0 then
      some ((-1), q_3.2)
    else
      f_X12_nearest_23 kf_F v0 v1 v2 (-2) 0 q_3.2
set_option maxRecDepth 100000 in
set_option maxHeartbeats 4000000 in
theorem c_X12_nearest {G : kf_G} (hty : kf_wt G) (v0 : Nat) (v1 : Int32) (v2 : Int32) (k_v0 : kf_kd G v0 = 13) (σ : kf_St) {q : (Int32 × kf_St)} (h : f_X12_nearest v0 v1 v2 σ = some q) : kf_Ct (3) yX12_nearest cX12_nearest 5 (some .int) G [.ref (kf_ad G v0), .int v1, .int v2] σ (some (.int q.1)) q.2 := by
  refine kf_Ct.of hty.1 (lv := [(0, .ref (kf_ad G v0)), (1, .int v1), (2, .int v2)]) (by decide +kernel) rfl (Nat.le_of_ble_eq_true rfl) (fun X E => ?_)
  unfold f_X12_nearest at h
  refine wa_aload_n 0 rfl E d_X12_nearest_0 ?_
  refine wa_iload_n 1 rfl E d_X12_nearest_1 ?_
  obtain ⟨q_1, hq_1, h⟩ := kf_bd h
  refine wa_callV (st2 := [.int q_1.1]) (c_X12_isDoor hty v0 v1 k_v0 σ hq_1) mv_X12_isDoor ml_X12_387 k_v0 rfl (Nat.le_of_ble_eq_true rfl) rfl (Nat.le_of_ble_eq_true rfl) E d_X12_nearest_2 rfl ?_
  refine wa_if_eq E d_X12_nearest_5 (fun c_2 => ?_) (fun c_2 => ?_)
  · replace h := kf_ift c_2 h
    refine wa_iconst (-1) ic_m1 E d_X12_nearest_15 ?_
    cases h
    exact wa_iret E d_X12_nearest_16
  · replace h := kf_iff c_2 h
    refine wa_iload_n 2 rfl E d_X12_nearest_8 ?_
    obtain ⟨q_3, hq_3, h⟩ := kf_bd h
    refine wa_callS (st2 := [.int q_3.1]) (c_X12_isPart hty v2 q_1.2 hq_3) mt_X12_isPart ml_X12_408 rfl (Nat.le_of_ble_eq_true rfl) rfl (Nat.le_of_ble_eq_true rfl) E d_X12_nearest_9 rfl ?_
    refine wa_if_ne E d_X12_nearest_12 (fun c_4 => ?_) (fun c_4 => ?_)
    · replace h := kf_iff c_4 h
      refine wa_bipush (-2) bp_m2 E d_X12_nearest_17 ?_
      refine wa_istore_n (lv' := [(3, .int (-2)), (0, .ref (kf_ad G v0)), (1, .int v1), (2, .int v2)]) rfl (by decide) rfl E d_X12_nearest_19 ?_
      refine wa_iconst 0 ic_0 E d_X12_nearest_20 ?_
      refine wa_istore (lv' := [(4, .int 0), (3, .int (-2)), (0, .ref (kf_ad G v0)), (1, .int v1), (2, .int v2)]) (by decide) rfl E d_X12_nearest_21 ?_
      refine wa_sub [2, 3, 4, 1, 0] rfl ?_
      exact b_X12_nearest_23 E hty kf_F v0 v1 v2 (-2) 0 k_v0 q_3.2 h
    · replace h := kf_ift c_4 h
      refine wa_iconst (-1) ic_m1 E d_X12_nearest_15 ?_
      cases h
      exact wa_iret E d_X12_nearest_16
/-! X12_same -/
theorem d_X12_same_0 : kf_dq cX12_same 0 1 1 (.aload_n 0) := ⟨by decide +kernel, rfl⟩
theorem d_X12_same_1 : kf_dq cX12_same 1 2 1 (.iload_n 1) := ⟨by decide +kernel, rfl⟩
theorem d_X12_same_2 : kf_dq cX12_same 2 3 1 (.iload_n 2) := ⟨by decide +kernel, rfl⟩
theorem d_X12_same_3 : kf_dq cX12_same 3 6 3 (.invokevirtual 399) := ⟨by decide +kernel, rfl⟩
theorem d_X12_same_6 : kf_dj cX12_same 6 9 11 (.ifCond .ne) := ⟨5, by decide +kernel, rfl, by decide⟩
theorem d_X12_same_9 : kf_dq cX12_same 9 10 1 (.iconst (-1)) := ⟨by decide +kernel, rfl⟩
theorem d_X12_same_10 : kf_dq cX12_same 10 11 1 (.ireturn) := ⟨by decide +kernel, rfl⟩
theorem d_X12_same_11 : kf_dq cX12_same 11 12 1 (.iconst 0) := ⟨by decide +kernel, rfl⟩
theorem d_X12_same_12 : kf_dq cX12_same 12 13 1 (.istore_n 3) := ⟨by decide +kernel, rfl⟩
theorem d_X12_same_13 : kf_dq cX12_same 13 14 1 (.iconst 0) := ⟨by decide +kernel, rfl⟩
theorem d_X12_same_14 : kf_dq cX12_same 14 16 2 (.istore 4) := ⟨by decide +kernel, rfl⟩
theorem d_X12_same_16 : kf_dq cX12_same 16 18 2 (.iload 4) := ⟨by decide +kernel, rfl⟩
theorem d_X12_same_18 : kf_dq cX12_same 18 19 1 (.iconst 4) := ⟨by decide +kernel, rfl⟩
theorem d_X12_same_19 : kf_dj cX12_same 19 22 56 (.if_icmp .ge) := ⟨37, by decide +kernel, rfl, by decide⟩
theorem d_X12_same_22 : kf_dq cX12_same 22 23 1 (.aload_n 0) := ⟨by decide +kernel, rfl⟩
theorem d_X12_same_23 : kf_dq cX12_same 23 26 3 (.getfield 119) := ⟨by decide +kernel, rfl⟩
theorem d_X12_same_26 : kf_dq cX12_same 26 27 1 (.iconst 4) := ⟨by decide +kernel, rfl⟩
theorem d_X12_same_27 : kf_dq cX12_same 27 28 1 (.iload_n 1) := ⟨by decide +kernel, rfl⟩
theorem d_X12_same_28 : kf_dq cX12_same 28 29 1 (.imul) := ⟨by decide +kernel, rfl⟩
theorem d_X12_same_29 : kf_dq cX12_same 29 31 2 (.iload 4) := ⟨by decide +kernel, rfl⟩
theorem d_X12_same_31 : kf_dq cX12_same 31 32 1 (.iadd) := ⟨by decide +kernel, rfl⟩
theorem d_X12_same_32 : kf_dq cX12_same 32 33 1 (.iaload) := ⟨by decide +kernel, rfl⟩
theorem d_X12_same_33 : kf_dq cX12_same 33 34 1 (.aload_n 0) := ⟨by decide +kernel, rfl⟩
theorem d_X12_same_34 : kf_dq cX12_same 34 35 1 (.iload_n 2) := ⟨by decide +kernel, rfl⟩
theorem d_X12_same_35 : kf_dq cX12_same 35 37 2 (.iload 4) := ⟨by decide +kernel, rfl⟩
theorem d_X12_same_37 : kf_dq cX12_same 37 40 3 (.invokevirtual 333) := ⟨by decide +kernel, rfl⟩
theorem d_X12_same_40 : kf_dj cX12_same 40 43 50 (.if_icmp .ne) := ⟨10, by decide +kernel, rfl, by decide⟩
theorem d_X12_same_43 : kf_dq cX12_same 43 44 1 (.iload_n 3) := ⟨by decide +kernel, rfl⟩
theorem d_X12_same_44 : kf_dq cX12_same 44 45 1 (.iconst 1) := ⟨by decide +kernel, rfl⟩
theorem d_X12_same_45 : kf_dq cX12_same 45 47 2 (.iload 4) := ⟨by decide +kernel, rfl⟩
theorem d_X12_same_47 : kf_dq cX12_same 47 48 1 (.ishl) := ⟨by decide +kernel, rfl⟩
theorem d_X12_same_48 : kf_dq cX12_same 48 49 1 (.ior) := ⟨by decide +kernel, rfl⟩
theorem d_X12_same_49 : kf_dq cX12_same 49 50 1 (.istore_n 3) := ⟨by decide +kernel, rfl⟩
theorem d_X12_same_50 : kf_dq cX12_same 50 53 3 (.iinc 4 1) := ⟨by decide +kernel, rfl⟩
theorem d_X12_same_53 : kf_dj cX12_same 53 56 16 .goto := ⟨(-37), by decide +kernel, rfl, by decide⟩
theorem d_X12_same_56 : kf_dq cX12_same 56 57 1 (.iload_n 3) := ⟨by decide +kernel, rfl⟩
theorem d_X12_same_57 : kf_dq cX12_same 57 58 1 (.ireturn) := ⟨by decide +kernel, rfl⟩
def f_X12_same_50 (rec16 : Nat → Int32 → Int32 → Int32 → Int32 → kf_St → Option (Int32 × kf_St)) (v0 : Nat) (v1 : Int32) (v2 : Int32) (v3 : Int32) (v4 : Int32) (σ : kf_St) : Option (Int32 × kf_St) :=
  kf_lt (v4 + 1) fun v4_1 =>
  rec16 v0 v1 v2 v3 v4_1 σ
set_option maxRecDepth 100000 in
set_option maxHeartbeats 4000000 in
theorem b_X12_same_50 {X : kf_X} {G : kf_G} {rec16 : Nat → Int32 → Int32 → Int32 → Int32 → kf_St → Option (Int32 × kf_St)} {q : (Int32 × kf_St)} (E : kf_ok X G cX12_same RX12 5 (some .int) (4)) (hty : kf_wt G) (hrec16 : ∀ (v0 : Nat) (v1 : Int32) (v2 : Int32) (v3 : Int32) (v4 : Int32) (k_v0 : kf_kd G v0 = 13) (σ : kf_St), rec16 v0 v1 v2 v3 v4 σ = some q → kf_WA X G 5 (kf_Q X G (some (.int q.1)) q.2) 16 [(0, .ref (kf_ad G v0)), (1, .int v1), (2, .int v2), (3, .int v3), (4, .int v4)] [] σ) (v0 : Nat) (v1 : Int32) (v2 : Int32) (v3 : Int32) (v4 : Int32) (k_v0 : kf_kd G v0 = 13) (σ : kf_St) (h : f_X12_same_50 rec16 v0 v1 v2 v3 v4 σ = some q) : kf_WA X G 5 (kf_Q X G (some (.int q.1)) q.2) 50 [(0, .ref (kf_ad G v0)), (1, .int v1), (2, .int v2), (3, .int v3), (4, .int v4)] [] σ := by
  unfold f_X12_same_50 at h
  obtain ⟨v4_1, ev4_1, h⟩ := kf_lte h
  refine wa_iinc (lv' := [(4, .int v4_1), (0, .ref (kf_ad G v0)), (1, .int v1), (2, .int v2), (3, .int v3)]) v4_1 4 rfl (kf_inc ic_1 ev4_1) (by decide) rfl E d_X12_same_50 ?_
  refine wa_goto E d_X12_same_53 ?_
  refine wa_sub [1, 2, 3, 4, 0] rfl ?_
  exact hrec16 v0 v1 v2 v3 v4_1 k_v0 σ h
def f_X12_same_16_s (rec16 : Nat → Int32 → Int32 → Int32 → Int32 → kf_St → Option (Int32 × kf_St)) (v0 : Nat) (v1 : Int32) (v2 : Int32) (v3 : Int32) (v4 : Int32) (σ : kf_St) : Option (Int32 × kf_St) :=
  if 4 ≤ v4 then
    some (v3, σ)
  else
    if kf_ix ((4 * v1) + v4) (kf_ln (kf_rf v0 51)) = true then
    (f_X12_facePart v0 v2 v4 σ).bind fun q_3 =>
    if (σ.1 (kf_rf v0 51) (Int32.toNatClampNeg ((4 * v1) + v4))) = q_3.1 then
      kf_lt ((v3 ||| ((1 : Int32) <<< (v4 &&& 31)))) fun v3_5 =>
      f_X12_same_50 rec16 v0 v1 v2 v3_5 v4 q_3.2
    else
      f_X12_same_50 rec16 v0 v1 v2 v3 v4 q_3.2
    else none
def f_X12_same_16 : Nat → Nat → Int32 → Int32 → Int32 → Int32 → kf_St → Option (Int32 × kf_St)
  | 0, _, _, _, _, _, _ => none
  | n + 1, v0, v1, v2, v3, v4, σ => f_X12_same_16_s (f_X12_same_16 n) v0 v1 v2 v3 v4 σ
set_option maxRecDepth 100000 in
set_option maxHeartbeats 4000000 in
theorem b_X12_same_16_s {X : kf_X} {G : kf_G} (rec16 : Nat → Int32 → Int32 → Int32 → Int32 → kf_St → Option (Int32 × kf_St)) {q : (Int32 × kf_St)} (E : kf_ok X G cX12_same RX12 5 (some .int) (4)) (hty : kf_wt G) (hrec16 : ∀ (v0 : Nat) (v1 : Int32) (v2 : Int32) (v3 : Int32) (v4 : Int32) (k_v0 : kf_kd G v0 = 13) (σ : kf_St), rec16 v0 v1 v2 v3 v4 σ = some q → kf_WA X G 5 (kf_Q X G (some (.int q.1)) q.2) 16 [(0, .ref (kf_ad G v0)), (1, .int v1), (2, .int v2), (3, .int v3), (4, .int v4)] [] σ) (v0 : Nat) (v1 : Int32) (v2 : Int32) (v3 : Int32) (v4 : Int32) (k_v0 : kf_kd G v0 = 13) (σ : kf_St) (h : f_X12_same_16_s rec16 v0 v1 v2 v3 v4 σ = some q) : kf_WA X G 5 (kf_Q X G (some (.int q.1)) q.2) 16 [(0, .ref (kf_ad G v0)), (1, .int v1), (2, .int v2), (3, .int v3), (4, .int v4)] [] σ := by
  unfold f_X12_same_16_s at h
  refine wa_iload 4 rfl E d_X12_same_16 ?_
  refine wa_iconst 4 ic_4 E d_X12_same_18 ?_
  refine wa_icmp_ge E d_X12_same_19 (fun c_1 => ?_) (fun c_1 => ?_)
  · replace h := kf_ift c_1 h
    refine wa_iload_n 3 rfl E d_X12_same_56 ?_
    cases h
    exact wa_iret E d_X12_same_57
  · replace h := kf_iff c_1 h
    refine wa_aload_n 0 rfl E d_X12_same_22 ?_
    refine wa_getR fl_X12_119 k_v0 rfl E d_X12_same_23 ?_
    refine wa_iconst 4 ic_4 E d_X12_same_26 ?_
    refine wa_iload_n 1 rfl E d_X12_same_27 ?_
    refine wa_imul E d_X12_same_28 ?_
    refine wa_iload 4 rfl E d_X12_same_29 ?_
    refine wa_iadd E d_X12_same_31 ?_
    obtain ⟨g_2, h⟩ := kf_gd h
    refine wa_iald (kf_wtf hty 51 49 k_v0 (by decide) rfl) g_2 E d_X12_same_32 ?_
    refine wa_aload_n 0 rfl E d_X12_same_33 ?_
    refine wa_iload_n 2 rfl E d_X12_same_34 ?_
    refine wa_iload 4 rfl E d_X12_same_35 ?_
    obtain ⟨q_3, hq_3, h⟩ := kf_bd h
    refine wa_callV (st2 := [.int q_3.1, .int (σ.1 (kf_rf v0 51) (Int32.toNatClampNeg ((4 * v1) + v4)))]) (c_X12_facePart hty v0 v2 v4 k_v0 σ hq_3) mv_X12_facePart ml_X12_333 k_v0 rfl (Nat.le_of_ble_eq_true rfl) rfl (Nat.le_of_ble_eq_true rfl) E d_X12_same_37 rfl ?_
    refine wa_icmp_ne E d_X12_same_40 (fun c_4 => ?_) (fun c_4 => ?_)
    · replace h := kf_iff c_4 h
      exact b_X12_same_50 E hty hrec16 v0 v1 v2 v3 v4 k_v0 q_3.2 h
    · replace h := kf_ift c_4 h
      refine wa_iload_n 3 rfl E d_X12_same_43 ?_
      refine wa_iconst 1 ic_1 E d_X12_same_44 ?_
      refine wa_iload 4 rfl E d_X12_same_45 ?_
      refine wa_ishl E d_X12_same_47 ?_
      refine wa_ior E d_X12_same_48 ?_
      obtain ⟨v3_5, ev3_5, h⟩ := kf_lte h
      refine wa_topi ev3_5 ?_
      refine wa_istore_n (lv' := [(3, .int v3_5), (0, .ref (kf_ad G v0)), (1, .int v1), (2, .int v2), (4, .int v4)]) rfl (by decide) rfl E d_X12_same_49 ?_
      refine wa_sub [1, 2, 3, 0, 4] rfl ?_
      exact b_X12_same_50 E hty hrec16 v0 v1 v2 v3_5 v4 k_v0 q_3.2 h
theorem b_X12_same_16 {X : kf_X} {G : kf_G} {q : (Int32 × kf_St)} (E : kf_ok X G cX12_same RX12 5 (some .int) (4)) (hty : kf_wt G) : ∀ (N : Nat) (v0 : Nat) (v1 : Int32) (v2 : Int32) (v3 : Int32) (v4 : Int32) (k_v0 : kf_kd G v0 = 13) (σ : kf_St) (_ : f_X12_same_16 N v0 v1 v2 v3 v4 σ = some q), kf_WA X G 5 (kf_Q X G (some (.int q.1)) q.2) 16 [(0, .ref (kf_ad G v0)), (1, .int v1), (2, .int v2), (3, .int v3), (4, .int v4)] [] σ
  | 0, _, _, _, _, _, _, _, h => by cases h
  | N + 1, v0, v1, v2, v3, v4, k_v0, σ, h => b_X12_same_16_s _ E hty (b_X12_same_16 E hty N) v0 v1 v2 v3 v4 k_v0 σ h
def f_X12_same (v0 : Nat) (v1 : Int32) (v2 : Int32) (σ : kf_St) : Option (Int32 × kf_St) :=
  (f_X12_areBoth v0 v1 v2 σ).bind fun q_1 =>
  if q_1.1 = 0 then
    some ((-1), q_1.2)
  else
    f_X12_same_16 kf_F v0 v1 v2 0 0 q_1.2
set_option maxRecDepth 100000 in
set_option maxHeartbeats 4000000 in
theorem c_X12_same {G : kf_G} (hty : kf_wt G) (v0 : Nat) (v1 : Int32) (v2 : Int32) (k_v0 : kf_kd G v0 = 13) (σ : kf_St) {q : (Int32 × kf_St)} (h : f_X12_same v0 v1 v2 σ = some q) : kf_Ct (4) yX12_same cX12_same 5 (some .int) G [.ref (kf_ad G v0), .int v1, .int v2] σ (some (.int q.1)) q.2 := by
  refine kf_Ct.of hty.1 (lv := [(0, .ref (kf_ad G v0)), (1, .int v1), (2, .int v2)]) (by decide +kernel) rfl (Nat.le_of_ble_eq_true rfl) (fun X E => ?_)
  unfold f_X12_same at h
  refine wa_aload_n 0 rfl E d_X12_same_0 ?_
  refine wa_iload_n 1 rfl E d_X12_same_1 ?_
  refine wa_iload_n 2 rfl E d_X12_same_2 ?_
  obtain ⟨q_1, hq_1, h⟩ := kf_bd h
  refine wa_callV (st2 := [.int q_1.1]) (c_X12_areBoth hty v0 v1 v2 k_v0 σ hq_1) mv_X12_areBoth ml_X12_399 k_v0 rfl (Nat.le_of_ble_eq_true rfl) rfl (Nat.le_of_ble_eq_true rfl) E d_X12_same_3 rfl ?_
  refine wa_if_ne E d_X12_same_6 (fun c_2 => ?_) (fun c_2 => ?_)
  · replace h := kf_iff c_2 h
    refine wa_iconst 0 ic_0 E d_X12_same_11 ?_
    refine wa_istore_n (lv' := [(3, .int 0), (0, .ref (kf_ad G v0)), (1, .int v1), (2, .int v2)]) rfl (by decide) rfl E d_X12_same_12 ?_
    refine wa_iconst 0 ic_0 E d_X12_same_13 ?_
    refine wa_istore (lv' := [(4, .int 0), (3, .int 0), (0, .ref (kf_ad G v0)), (1, .int v1), (2, .int v2)]) (by decide) rfl E d_X12_same_14 ?_
    refine wa_sub [2, 3, 4, 1, 0] rfl ?_
    exact b_X12_same_16 E hty kf_F v0 v1 v2 0 0 k_v0 q_1.2 h
  · replace h := kf_ift c_2 h
    refine wa_iconst (-1) ic_m1 E d_X12_same_9 ?_
    cases h
    exact wa_iret E d_X12_same_10
/-! X12_shift -/
theorem d_X12_shift_0 : kf_dq cX12_shift 0 1 1 (.aload_n 0) := ⟨by decide +kernel, rfl⟩
theorem d_X12_shift_1 : kf_dq cX12_shift 1 2 1 (.iload_n 1) := ⟨by decide +kernel, rfl⟩
theorem d_X12_shift_2 : kf_dq cX12_shift 2 5 3 (.invokevirtual 387) := ⟨by decide +kernel, rfl⟩
theorem d_X12_shift_5 : kf_dj cX12_shift 5 8 15 (.ifCond .eq) := ⟨10, by decide +kernel, rfl, by decide⟩
theorem d_X12_shift_8 : kf_dq cX12_shift 8 9 1 (.iload_n 2) := ⟨by decide +kernel, rfl⟩
theorem d_X12_shift_9 : kf_dq cX12_shift 9 12 3 (.invokestatic 411) := ⟨by decide +kernel, rfl⟩
theorem d_X12_shift_12 : kf_dj cX12_shift 12 15 17 (.ifCond .ne) := ⟨5, by decide +kernel, rfl, by decide⟩
theorem d_X12_shift_15 : kf_dq cX12_shift 15 16 1 (.iconst (-1)) := ⟨by decide +kernel, rfl⟩
theorem d_X12_shift_16 : kf_dq cX12_shift 16 17 1 (.ireturn) := ⟨by decide +kernel, rfl⟩
theorem d_X12_shift_17 : kf_dq cX12_shift 17 18 1 (.aload_n 0) := ⟨by decide +kernel, rfl⟩
theorem d_X12_shift_18 : kf_dq cX12_shift 18 21 3 (.invokevirtual 430) := ⟨by decide +kernel, rfl⟩
theorem d_X12_shift_21 : kf_dq cX12_shift 21 22 1 (.aload_n 0) := ⟨by decide +kernel, rfl⟩
theorem d_X12_shift_22 : kf_dq cX12_shift 22 23 1 (.iload_n 2) := ⟨by decide +kernel, rfl⟩
theorem d_X12_shift_23 : kf_dq cX12_shift 23 26 3 (.invokevirtual 414) := ⟨by decide +kernel, rfl⟩
theorem d_X12_shift_26 : kf_dq cX12_shift 26 27 1 (.iconst 0) := ⟨by decide +kernel, rfl⟩
theorem d_X12_shift_27 : kf_dq cX12_shift 27 28 1 (.istore_n 3) := ⟨by decide +kernel, rfl⟩
theorem d_X12_shift_28 : kf_dq cX12_shift 28 29 1 (.iconst 0) := ⟨by decide +kernel, rfl⟩
theorem d_X12_shift_29 : kf_dq cX12_shift 29 31 2 (.istore 4) := ⟨by decide +kernel, rfl⟩
theorem d_X12_shift_31 : kf_dq cX12_shift 31 33 2 (.iload 4) := ⟨by decide +kernel, rfl⟩
theorem d_X12_shift_33 : kf_dq cX12_shift 33 34 1 (.iconst 4) := ⟨by decide +kernel, rfl⟩
theorem d_X12_shift_34 : kf_dj cX12_shift 34 37 71 (.if_icmp .ge) := ⟨37, by decide +kernel, rfl, by decide⟩
theorem d_X12_shift_37 : kf_dq cX12_shift 37 38 1 (.iload_n 3) := ⟨by decide +kernel, rfl⟩
theorem d_X12_shift_38 : kf_dq cX12_shift 38 39 1 (.aload_n 0) := ⟨by decide +kernel, rfl⟩
theorem d_X12_shift_39 : kf_dq cX12_shift 39 42 3 (.getfield 122) := ⟨by decide +kernel, rfl⟩
theorem d_X12_shift_42 : kf_dq cX12_shift 42 43 1 (.iconst 4) := ⟨by decide +kernel, rfl⟩
theorem d_X12_shift_43 : kf_dq cX12_shift 43 44 1 (.iload_n 1) := ⟨by decide +kernel, rfl⟩
theorem d_X12_shift_44 : kf_dq cX12_shift 44 45 1 (.imul) := ⟨by decide +kernel, rfl⟩
theorem d_X12_shift_45 : kf_dq cX12_shift 45 47 2 (.iload 4) := ⟨by decide +kernel, rfl⟩
theorem d_X12_shift_47 : kf_dq cX12_shift 47 48 1 (.iadd) := ⟨by decide +kernel, rfl⟩
theorem d_X12_shift_48 : kf_dq cX12_shift 48 49 1 (.iaload) := ⟨by decide +kernel, rfl⟩
theorem d_X12_shift_49 : kf_dq cX12_shift 49 50 1 (.aload_n 0) := ⟨by decide +kernel, rfl⟩
theorem d_X12_shift_50 : kf_dq cX12_shift 50 53 3 (.getfield 119) := ⟨by decide +kernel, rfl⟩
theorem d_X12_shift_53 : kf_dq cX12_shift 53 54 1 (.iconst 4) := ⟨by decide +kernel, rfl⟩
theorem d_X12_shift_54 : kf_dq cX12_shift 54 55 1 (.iload_n 1) := ⟨by decide +kernel, rfl⟩
theorem d_X12_shift_55 : kf_dq cX12_shift 55 56 1 (.imul) := ⟨by decide +kernel, rfl⟩
theorem d_X12_shift_56 : kf_dq cX12_shift 56 58 2 (.iload 4) := ⟨by decide +kernel, rfl⟩
theorem d_X12_shift_58 : kf_dq cX12_shift 58 59 1 (.iadd) := ⟨by decide +kernel, rfl⟩
theorem d_X12_shift_59 : kf_dq cX12_shift 59 60 1 (.iaload) := ⟨by decide +kernel, rfl⟩
theorem d_X12_shift_60 : kf_dq cX12_shift 60 63 3 (.invokestatic 336) := ⟨by decide +kernel, rfl⟩
theorem d_X12_shift_63 : kf_dq cX12_shift 63 64 1 (.iadd) := ⟨by decide +kernel, rfl⟩
theorem d_X12_shift_64 : kf_dq cX12_shift 64 65 1 (.istore_n 3) := ⟨by decide +kernel, rfl⟩
theorem d_X12_shift_65 : kf_dq cX12_shift 65 68 3 (.iinc 4 1) := ⟨by decide +kernel, rfl⟩
theorem d_X12_shift_68 : kf_dj cX12_shift 68 71 31 .goto := ⟨(-37), by decide +kernel, rfl, by decide⟩
theorem d_X12_shift_71 : kf_dq cX12_shift 71 72 1 (.iload_n 3) := ⟨by decide +kernel, rfl⟩
theorem d_X12_shift_72 : kf_dq cX12_shift 72 73 1 (.ireturn) := ⟨by decide +kernel, rfl⟩
def f_X12_shift_31_s (rec31 : Nat → Int32 → Int32 → Int32 → kf_St → Option (Int32 × kf_St)) (v0 : Nat) (v1 : Int32) (v3 : Int32) (v4 : Int32) (σ : kf_St) : Option (Int32 × kf_St) :=
  if 4 ≤ v4 then
    some (v3, σ)
  else
    if kf_ix ((4 * v1) + v4) (kf_ln (kf_rf v0 52)) = true then
    if kf_ix ((4 * v1) + v4) (kf_ln (kf_rf v0 51)) = true then
    (f_X12_off (σ.1 (kf_rf v0 52) (Int32.toNatClampNeg ((4 * v1) + v4))) (σ.1 (kf_rf v0 51) (Int32.toNatClampNeg ((4 * v1) + v4))) σ).bind fun q_4 =>
    kf_lt ((v3 + q_4.1)) fun v3_5 =>
    kf_lt (v4 + 1) fun v4_6 =>
    rec31 v0 v1 v3_5 v4_6 q_4.2
    else none
    else none
def f_X12_shift_31 : Nat → Nat → Int32 → Int32 → Int32 → kf_St → Option (Int32 × kf_St)
  | 0, _, _, _, _, _ => none
  | n + 1, v0, v1, v3, v4, σ => f_X12_shift_31_s (f_X12_shift_31 n) v0 v1 v3 v4 σ
set_option maxRecDepth 100000 in
set_option maxHeartbeats 4000000 in
theorem b_X12_shift_31_s {X : kf_X} {G : kf_G} (rec31 : Nat → Int32 → Int32 → Int32 → kf_St → Option (Int32 × kf_St)) {q : (Int32 × kf_St)} (E : kf_ok X G cX12_shift RX12 5 (some .int) (7)) (hty : kf_wt G) (hrec31 : ∀ (v0 : Nat) (v1 : Int32) (v3 : Int32) (v4 : Int32) (k_v0 : kf_kd G v0 = 13) (σ : kf_St), rec31 v0 v1 v3 v4 σ = some q → kf_WA X G 5 (kf_Q X G (some (.int q.1)) q.2) 31 [(0, .ref (kf_ad G v0)), (1, .int v1), (3, .int v3), (4, .int v4)] [] σ) (v0 : Nat) (v1 : Int32) (v3 : Int32) (v4 : Int32) (k_v0 : kf_kd G v0 = 13) (σ : kf_St) (h : f_X12_shift_31_s rec31 v0 v1 v3 v4 σ = some q) : kf_WA X G 5 (kf_Q X G (some (.int q.1)) q.2) 31 [(0, .ref (kf_ad G v0)), (1, .int v1), (3, .int v3), (4, .int v4)] [] σ := by
  unfold f_X12_shift_31_s at h
  refine wa_iload 3 rfl E d_X12_shift_31 ?_
  refine wa_iconst 4 ic_4 E d_X12_shift_33 ?_
  refine wa_icmp_ge E d_X12_shift_34 (fun c_1 => ?_) (fun c_1 => ?_)
  · replace h := kf_ift c_1 h
    refine wa_iload_n 2 rfl E d_X12_shift_71 ?_
    cases h
    exact wa_iret E d_X12_shift_72
  · replace h := kf_iff c_1 h
    refine wa_iload_n 2 rfl E d_X12_shift_37 ?_
    refine wa_aload_n 0 rfl E d_X12_shift_38 ?_
    refine wa_getR fl_X12_122 k_v0 rfl E d_X12_shift_39 ?_
    refine wa_iconst 4 ic_4 E d_X12_shift_42 ?_
    refine wa_iload_n 1 rfl E d_X12_shift_43 ?_
    refine wa_imul E d_X12_shift_44 ?_
    refine wa_iload 3 rfl E d_X12_shift_45 ?_
    refine wa_iadd E d_X12_shift_47 ?_
    obtain ⟨g_2, h⟩ := kf_gd h
    refine wa_iald (kf_wtf hty 52 49 k_v0 (by decide) rfl) g_2 E d_X12_shift_48 ?_
    refine wa_aload_n 0 rfl E d_X12_shift_49 ?_
    refine wa_getR fl_X12_119 k_v0 rfl E d_X12_shift_50 ?_
    refine wa_iconst 4 ic_4 E d_X12_shift_53 ?_
    refine wa_iload_n 1 rfl E d_X12_shift_54 ?_
    refine wa_imul E d_X12_shift_55 ?_
    refine wa_iload 3 rfl E d_X12_shift_56 ?_
    refine wa_iadd E d_X12_shift_58 ?_
    obtain ⟨g_3, h⟩ := kf_gd h
    refine wa_iald (kf_wtf hty 51 49 k_v0 (by decide) rfl) g_3 E d_X12_shift_59 ?_
    obtain ⟨q_4, hq_4, h⟩ := kf_bd h
    refine wa_callS (st2 := [.int q_4.1, .int v3]) (c_X12_off hty (σ.1 (kf_rf v0 52) (Int32.toNatClampNeg ((4 * v1) + v4))) (σ.1 (kf_rf v0 51) (Int32.toNatClampNeg ((4 * v1) + v4))) σ hq_4) mt_X12_off ml_X12_336 rfl (Nat.le_of_ble_eq_true rfl) rfl (Nat.le_of_ble_eq_true rfl) E d_X12_shift_60 rfl ?_
    refine wa_iadd E d_X12_shift_63 ?_
    obtain ⟨v3_5, ev3_5, h⟩ := kf_lte h
    refine wa_topi ev3_5 ?_
    refine wa_istore_n (lv' := [(3, .int v3_5), (0, .ref (kf_ad G v0)), (1, .int v1), (4, .int v4)]) rfl (by decide) rfl E d_X12_shift_64 ?_
    obtain ⟨v4_6, ev4_6, h⟩ := kf_lte h
    refine wa_iinc (lv' := [(4, .int v4_6), (3, .int v3_5), (0, .ref (kf_ad G v0)), (1, .int v1)]) v4_6 3 rfl (kf_inc ic_1 ev4_6) (by decide) rfl E d_X12_shift_65 ?_
    refine wa_goto E d_X12_shift_68 ?_
    refine wa_sub [2, 3, 1, 0] rfl ?_
    exact hrec31 v0 v1 v3_5 v4_6 k_v0 q_4.2 h
theorem b_X12_shift_31 {X : kf_X} {G : kf_G} {q : (Int32 × kf_St)} (E : kf_ok X G cX12_shift RX12 5 (some .int) (7)) (hty : kf_wt G) : ∀ (N : Nat) (v0 : Nat) (v1 : Int32) (v3 : Int32) (v4 : Int32) (k_v0 : kf_kd G v0 = 13) (σ : kf_St) (_ : f_X12_shift_31 N v0 v1 v3 v4 σ = some q), kf_WA X G 5 (kf_Q X G (some (.int q.1)) q.2) 31 [(0, .ref (kf_ad G v0)), (1, .int v1), (3, .int v3), (4, .int v4)] [] σ
  | 0, _, _, _, _, _, _, h => by cases h
  | N + 1, v0, v1, v3, v4, k_v0, σ, h => b_X12_shift_31_s _ E hty (b_X12_shift_31 E hty N) v0 v1 v3 v4 k_v0 σ h
def f_X12_shift (v0 : Nat) (v1 : Int32) (v2 : Int32) (σ : kf_St) : Option (Int32 × kf_St) :=
  (f_X12_isDoor v0 v1 σ).bind fun q_1 =>
  if q_1.1 = 0 then
    some ((-1), q_1.2)
  else
    (f_X12_isLong v2 q_1.2).bind fun q_3 =>
    if q_3.1 = 0 then
      some ((-1), q_3.2)
    else
      (f_X12_copiesStill v0 q_3.2).bind fun q_5 =>
      (f_X12_goes v0 v2 q_5).bind fun q_6 =>
      f_X12_shift_31 kf_F v0 v1 0 0 q_6
set_option maxRecDepth 100000 in
set_option maxHeartbeats 4000000 in
theorem c_X12_shift {G : kf_G} (hty : kf_wt G) (v0 : Nat) (v1 : Int32) (v2 : Int32) (k_v0 : kf_kd G v0 = 13) (σ : kf_St) {q : (Int32 × kf_St)} (h : f_X12_shift v0 v1 v2 σ = some q) : kf_Ct (7) yX12_shift cX12_shift 5 (some .int) G [.ref (kf_ad G v0), .int v1, .int v2] σ (some (.int q.1)) q.2 := by
  refine kf_Ct.of hty.1 (lv := [(0, .ref (kf_ad G v0)), (1, .int v1), (2, .int v2)]) (by decide +kernel) rfl (Nat.le_of_ble_eq_true rfl) (fun X E => ?_)
  unfold f_X12_shift at h
  refine wa_aload_n 0 rfl E d_X12_shift_0 ?_
  refine wa_iload_n 1 rfl E d_X12_shift_1 ?_
  obtain ⟨q_1, hq_1, h⟩ := kf_bd h
  refine wa_callV (st2 := [.int q_1.1]) (c_X12_isDoor hty v0 v1 k_v0 σ hq_1) mv_X12_isDoor ml_X12_387 k_v0 rfl (Nat.le_of_ble_eq_true rfl) rfl (Nat.le_of_ble_eq_true rfl) E d_X12_shift_2 rfl ?_
  refine wa_if_eq E d_X12_shift_5 (fun c_2 => ?_) (fun c_2 => ?_)
  · replace h := kf_ift c_2 h
    refine wa_iconst (-1) ic_m1 E d_X12_shift_15 ?_
    cases h
    exact wa_iret E d_X12_shift_16
  · replace h := kf_iff c_2 h
    refine wa_iload_n 2 rfl E d_X12_shift_8 ?_
    obtain ⟨q_3, hq_3, h⟩ := kf_bd h
    refine wa_callS (st2 := [.int q_3.1]) (c_X12_isLong hty v2 q_1.2 hq_3) mt_X12_isLong ml_X12_411 rfl (Nat.le_of_ble_eq_true rfl) rfl (Nat.le_of_ble_eq_true rfl) E d_X12_shift_9 rfl ?_
    refine wa_if_ne E d_X12_shift_12 (fun c_4 => ?_) (fun c_4 => ?_)
    · replace h := kf_iff c_4 h
      refine wa_aload_n 0 rfl E d_X12_shift_17 ?_
      obtain ⟨q_5, hq_5, h⟩ := kf_bd h
      refine wa_callV (st2 := []) (c_X12_copiesStill hty v0 k_v0 q_3.2 hq_5) mv_X12_copiesStill ml_X12_430 k_v0 rfl (Nat.le_of_ble_eq_true rfl) rfl (Nat.le_of_ble_eq_true rfl) E d_X12_shift_18 rfl ?_
      refine wa_aload_n 0 rfl E d_X12_shift_21 ?_
      refine wa_iload_n 2 rfl E d_X12_shift_22 ?_
      obtain ⟨q_6, hq_6, h⟩ := kf_bd h
      refine wa_callV (st2 := []) (c_X12_goes hty v0 v2 k_v0 q_5 hq_6) mv_X12_goes ml_X12_414 k_v0 rfl (Nat.le_of_ble_eq_true rfl) rfl (Nat.le_of_ble_eq_true rfl) E d_X12_shift_23 rfl ?_
      refine wa_iconst 0 ic_0 E d_X12_shift_26 ?_
      refine wa_istore_n (lv' := [(3, .int 0), (0, .ref (kf_ad G v0)), (1, .int v1), (2, .int v2)]) rfl (by decide) rfl E d_X12_shift_27 ?_
      refine wa_iconst 0 ic_0 E d_X12_shift_28 ?_
      refine wa_istore (lv' := [(4, .int 0), (3, .int 0), (0, .ref (kf_ad G v0)), (1, .int v1), (2, .int v2)]) (by decide) rfl E d_X12_shift_29 ?_
      refine wa_sub [2, 3, 1, 0] rfl ?_
      exact b_X12_shift_31 E hty kf_F v0 v1 0 0 k_v0 q_6 h
    · replace h := kf_ift c_4 h
      refine wa_iconst (-1) ic_m1 E d_X12_shift_15 ?_
      cases h
      exact wa_iret E d_X12_shift_16
/-! X12_timesDue -/
theorem d_X12_timesDue_0 : kf_dq cX12_timesDue 0 1 1 (.iconst 0) := ⟨by decide +kernel, rfl⟩
theorem d_X12_timesDue_1 : kf_dq cX12_timesDue 1 2 1 (.istore_n 3) := ⟨by decide +kernel, rfl⟩
theorem d_X12_timesDue_2 : kf_dq cX12_timesDue 2 3 1 (.iconst 0) := ⟨by decide +kernel, rfl⟩
theorem d_X12_timesDue_3 : kf_dq cX12_timesDue 3 5 2 (.istore 4) := ⟨by decide +kernel, rfl⟩
theorem d_X12_timesDue_5 : kf_dq cX12_timesDue 5 7 2 (.iload 4) := ⟨by decide +kernel, rfl⟩
theorem d_X12_timesDue_7 : kf_dq cX12_timesDue 7 8 1 (.iload_n 2) := ⟨by decide +kernel, rfl⟩
theorem d_X12_timesDue_8 : kf_dj cX12_timesDue 8 11 51 (.if_icmp .ge) := ⟨43, by decide +kernel, rfl, by decide⟩
theorem d_X12_timesDue_11 : kf_dq cX12_timesDue 11 12 1 (.aload_n 0) := ⟨by decide +kernel, rfl⟩
theorem d_X12_timesDue_12 : kf_dq cX12_timesDue 12 15 3 (.getfield 119) := ⟨by decide +kernel, rfl⟩
theorem d_X12_timesDue_15 : kf_dq cX12_timesDue 15 17 2 (.bipush 54) := ⟨by decide +kernel, rfl⟩
theorem d_X12_timesDue_17 : kf_dq cX12_timesDue 17 18 1 (.iload_n 1) := ⟨by decide +kernel, rfl⟩
theorem d_X12_timesDue_18 : kf_dq cX12_timesDue 18 19 1 (.iadd) := ⟨by decide +kernel, rfl⟩
theorem d_X12_timesDue_19 : kf_dq cX12_timesDue 19 20 1 (.iaload) := ⟨by decide +kernel, rfl⟩
theorem d_X12_timesDue_20 : kf_dq cX12_timesDue 20 21 1 (.iconst 1) := ⟨by decide +kernel, rfl⟩
theorem d_X12_timesDue_21 : kf_dj cX12_timesDue 21 24 45 (.if_icmp .ne) := ⟨24, by decide +kernel, rfl, by decide⟩
theorem d_X12_timesDue_24 : kf_dq cX12_timesDue 24 25 1 (.aload_n 0) := ⟨by decide +kernel, rfl⟩
theorem d_X12_timesDue_25 : kf_dq cX12_timesDue 25 26 1 (.iload_n 1) := ⟨by decide +kernel, rfl⟩
theorem d_X12_timesDue_26 : kf_dq cX12_timesDue 26 27 1 (.aload_n 0) := ⟨by decide +kernel, rfl⟩
theorem d_X12_timesDue_27 : kf_dq cX12_timesDue 27 30 3 (.getfield 119) := ⟨by decide +kernel, rfl⟩
theorem d_X12_timesDue_30 : kf_dq cX12_timesDue 30 32 2 (.bipush 69) := ⟨by decide +kernel, rfl⟩
theorem d_X12_timesDue_32 : kf_dq cX12_timesDue 32 33 1 (.iaload) := ⟨by decide +kernel, rfl⟩
theorem d_X12_timesDue_33 : kf_dq cX12_timesDue 33 35 2 (.iload 4) := ⟨by decide +kernel, rfl⟩
theorem d_X12_timesDue_35 : kf_dq cX12_timesDue 35 36 1 (.iadd) := ⟨by decide +kernel, rfl⟩
theorem d_X12_timesDue_36 : kf_dq cX12_timesDue 36 39 3 (.invokevirtual 370) := ⟨by decide +kernel, rfl⟩
theorem d_X12_timesDue_39 : kf_dj cX12_timesDue 39 42 45 (.ifCond .eq) := ⟨6, by decide +kernel, rfl, by decide⟩
theorem d_X12_timesDue_42 : kf_dq cX12_timesDue 42 45 3 (.iinc 3 1) := ⟨by decide +kernel, rfl⟩
theorem d_X12_timesDue_45 : kf_dq cX12_timesDue 45 48 3 (.iinc 4 1) := ⟨by decide +kernel, rfl⟩
theorem d_X12_timesDue_48 : kf_dj cX12_timesDue 48 51 5 .goto := ⟨(-43), by decide +kernel, rfl, by decide⟩
theorem d_X12_timesDue_51 : kf_dq cX12_timesDue 51 52 1 (.iload_n 3) := ⟨by decide +kernel, rfl⟩
theorem d_X12_timesDue_52 : kf_dq cX12_timesDue 52 53 1 (.ireturn) := ⟨by decide +kernel, rfl⟩
def f_X12_timesDue_45 (rec5 : Nat → Int32 → Int32 → Int32 → Int32 → kf_St → Option (Int32 × kf_St)) (v0 : Nat) (v1 : Int32) (v2 : Int32) (v3 : Int32) (v4 : Int32) (σ : kf_St) : Option (Int32 × kf_St) :=
  kf_lt (v4 + 1) fun v4_1 =>
  rec5 v0 v1 v2 v3 v4_1 σ
set_option maxRecDepth 100000 in
set_option maxHeartbeats 4000000 in
theorem b_X12_timesDue_45 {X : kf_X} {G : kf_G} {rec5 : Nat → Int32 → Int32 → Int32 → Int32 → kf_St → Option (Int32 × kf_St)} {q : (Int32 × kf_St)} (E : kf_ok X G cX12_timesDue RX12 5 (some .int) (2)) (hty : kf_wt G) (hrec5 : ∀ (v0 : Nat) (v1 : Int32) (v2 : Int32) (v3 : Int32) (v4 : Int32) (k_v0 : kf_kd G v0 = 13) (σ : kf_St), rec5 v0 v1 v2 v3 v4 σ = some q → kf_WA X G 5 (kf_Q X G (some (.int q.1)) q.2) 5 [(0, .ref (kf_ad G v0)), (1, .int v1), (2, .int v2), (3, .int v3), (4, .int v4)] [] σ) (v0 : Nat) (v1 : Int32) (v2 : Int32) (v3 : Int32) (v4 : Int32) (k_v0 : kf_kd G v0 = 13) (σ : kf_St) (h : f_X12_timesDue_45 rec5 v0 v1 v2 v3 v4 σ = some q) : kf_WA X G 5 (kf_Q X G (some (.int q.1)) q.2) 45 [(0, .ref (kf_ad G v0)), (1, .int v1), (2, .int v2), (3, .int v3), (4, .int v4)] [] σ := by
  unfold f_X12_timesDue_45 at h
  obtain ⟨v4_1, ev4_1, h⟩ := kf_lte h
  refine wa_iinc (lv' := [(4, .int v4_1), (0, .ref (kf_ad G v0)), (1, .int v1), (2, .int v2), (3, .int v3)]) v4_1 4 rfl (kf_inc ic_1 ev4_1) (by decide) rfl E d_X12_timesDue_45 ?_
  refine wa_goto E d_X12_timesDue_48 ?_
  refine wa_sub [1, 2, 3, 4, 0] rfl ?_
  exact hrec5 v0 v1 v2 v3 v4_1 k_v0 σ h
def f_X12_timesDue_5_s (rec5 : Nat → Int32 → Int32 → Int32 → Int32 → kf_St → Option (Int32 × kf_St)) (v0 : Nat) (v1 : Int32) (v2 : Int32) (v3 : Int32) (v4 : Int32) (σ : kf_St) : Option (Int32 × kf_St) :=
  if v2 ≤ v4 then
    some (v3, σ)
  else
    if kf_ix (54 + v1) (kf_ln (kf_rf v0 51)) = true then
    if (σ.1 (kf_rf v0 51) (Int32.toNatClampNeg (54 + v1))) = 1 then
      if kf_ix 69 (kf_ln (kf_rf v0 51)) = true then
      (f_X12_isDue v0 v1 ((σ.1 (kf_rf v0 51) (Int32.toNatClampNeg 69)) + v4) σ).bind fun q_5 =>
      if q_5.1 = 0 then
        f_X12_timesDue_45 rec5 v0 v1 v2 v3 v4 q_5.2
      else
        kf_lt (v3 + 1) fun v3_7 =>
        f_X12_timesDue_45 rec5 v0 v1 v2 v3_7 v4 q_5.2
      else none
    else
      f_X12_timesDue_45 rec5 v0 v1 v2 v3 v4 σ
    else none
def f_X12_timesDue_5 : Nat → Nat → Int32 → Int32 → Int32 → Int32 → kf_St → Option (Int32 × kf_St)
  | 0, _, _, _, _, _, _ => none
  | n + 1, v0, v1, v2, v3, v4, σ => f_X12_timesDue_5_s (f_X12_timesDue_5 n) v0 v1 v2 v3 v4 σ
set_option maxRecDepth 100000 in
set_option maxHeartbeats 4000000 in
theorem b_X12_timesDue_5_s {X : kf_X} {G : kf_G} (rec5 : Nat → Int32 → Int32 → Int32 → Int32 → kf_St → Option (Int32 × kf_St)) {q : (Int32 × kf_St)} (E : kf_ok X G cX12_timesDue RX12 5 (some .int) (2)) (hty : kf_wt G) (hrec5 : ∀ (v0 : Nat) (v1 : Int32) (v2 : Int32) (v3 : Int32) (v4 : Int32) (k_v0 : kf_kd G v0 = 13) (σ : kf_St), rec5 v0 v1 v2 v3 v4 σ = some q → kf_WA X G 5 (kf_Q X G (some (.int q.1)) q.2) 5 [(0, .ref (kf_ad G v0)), (1, .int v1), (2, .int v2), (3, .int v3), (4, .int v4)] [] σ) (v0 : Nat) (v1 : Int32) (v2 : Int32) (v3 : Int32) (v4 : Int32) (k_v0 : kf_kd G v0 = 13) (σ : kf_St) (h : f_X12_timesDue_5_s rec5 v0 v1 v2 v3 v4 σ = some q) : kf_WA X G 5 (kf_Q X G (some (.int q.1)) q.2) 5 [(0, .ref (kf_ad G v0)), (1, .int v1), (2, .int v2), (3, .int v3), (4, .int v4)] [] σ := by
  unfold f_X12_timesDue_5_s at h
  refine wa_iload 4 rfl E d_X12_timesDue_5 ?_
  refine wa_iload_n 2 rfl E d_X12_timesDue_7 ?_
  refine wa_icmp_ge E d_X12_timesDue_8 (fun c_1 => ?_) (fun c_1 => ?_)
  · replace h := kf_ift c_1 h
    refine wa_iload_n 3 rfl E d_X12_timesDue_51 ?_
    cases h
    exact wa_iret E d_X12_timesDue_52
  · replace h := kf_iff c_1 h
    refine wa_aload_n 0 rfl E d_X12_timesDue_11 ?_
    refine wa_getR fl_X12_119 k_v0 rfl E d_X12_timesDue_12 ?_
    refine wa_bipush 54 bp_54 E d_X12_timesDue_15 ?_
    refine wa_iload_n 1 rfl E d_X12_timesDue_17 ?_
    refine wa_iadd E d_X12_timesDue_18 ?_
    obtain ⟨g_2, h⟩ := kf_gd h
    refine wa_iald (kf_wtf hty 51 49 k_v0 (by decide) rfl) g_2 E d_X12_timesDue_19 ?_
    refine wa_iconst 1 ic_1 E d_X12_timesDue_20 ?_
    refine wa_icmp_ne E d_X12_timesDue_21 (fun c_3 => ?_) (fun c_3 => ?_)
    · replace h := kf_iff c_3 h
      exact b_X12_timesDue_45 E hty hrec5 v0 v1 v2 v3 v4 k_v0 σ h
    · replace h := kf_ift c_3 h
      refine wa_aload_n 0 rfl E d_X12_timesDue_24 ?_
      refine wa_iload_n 1 rfl E d_X12_timesDue_25 ?_
      refine wa_aload_n 0 rfl E d_X12_timesDue_26 ?_
      refine wa_getR fl_X12_119 k_v0 rfl E d_X12_timesDue_27 ?_
      refine wa_bipush 69 bp_69 E d_X12_timesDue_30 ?_
      obtain ⟨g_4, h⟩ := kf_gd h
      refine wa_iald (kf_wtf hty 51 49 k_v0 (by decide) rfl) g_4 E d_X12_timesDue_32 ?_
      refine wa_iload 4 rfl E d_X12_timesDue_33 ?_
      refine wa_iadd E d_X12_timesDue_35 ?_
      obtain ⟨q_5, hq_5, h⟩ := kf_bd h
      refine wa_callV (st2 := [.int q_5.1]) (c_X12_isDue hty v0 v1 ((σ.1 (kf_rf v0 51) (Int32.toNatClampNeg 69)) + v4) k_v0 σ hq_5) mv_X12_isDue ml_X12_370 k_v0 rfl (Nat.le_of_ble_eq_true rfl) rfl (Nat.le_of_ble_eq_true rfl) E d_X12_timesDue_36 rfl ?_
      refine wa_if_eq E d_X12_timesDue_39 (fun c_6 => ?_) (fun c_6 => ?_)
      · replace h := kf_ift c_6 h
        exact b_X12_timesDue_45 E hty hrec5 v0 v1 v2 v3 v4 k_v0 q_5.2 h
      · replace h := kf_iff c_6 h
        obtain ⟨v3_7, ev3_7, h⟩ := kf_lte h
        refine wa_iinc (lv' := [(3, .int v3_7), (0, .ref (kf_ad G v0)), (1, .int v1), (2, .int v2), (4, .int v4)]) v3_7 3 rfl (kf_inc ic_1 ev3_7) (by decide) rfl E d_X12_timesDue_42 ?_
        refine wa_sub [1, 2, 3, 0, 4] rfl ?_
        exact b_X12_timesDue_45 E hty hrec5 v0 v1 v2 v3_7 v4 k_v0 q_5.2 h
theorem b_X12_timesDue_5 {X : kf_X} {G : kf_G} {q : (Int32 × kf_St)} (E : kf_ok X G cX12_timesDue RX12 5 (some .int) (2)) (hty : kf_wt G) : ∀ (N : Nat) (v0 : Nat) (v1 : Int32) (v2 : Int32) (v3 : Int32) (v4 : Int32) (k_v0 : kf_kd G v0 = 13) (σ : kf_St) (_ : f_X12_timesDue_5 N v0 v1 v2 v3 v4 σ = some q), kf_WA X G 5 (kf_Q X G (some (.int q.1)) q.2) 5 [(0, .ref (kf_ad G v0)), (1, .int v1), (2, .int v2), (3, .int v3), (4, .int v4)] [] σ
  | 0, _, _, _, _, _, _, _, h => by cases h
  | N + 1, v0, v1, v2, v3, v4, k_v0, σ, h => b_X12_timesDue_5_s _ E hty (b_X12_timesDue_5 E hty N) v0 v1 v2 v3 v4 k_v0 σ h
def f_X12_timesDue (v0 : Nat) (v1 : Int32) (v2 : Int32) (σ : kf_St) : Option (Int32 × kf_St) :=
  f_X12_timesDue_5 kf_F v0 v1 v2 0 0 σ
set_option maxRecDepth 100000 in
set_option maxHeartbeats 4000000 in
theorem c_X12_timesDue {G : kf_G} (hty : kf_wt G) (v0 : Nat) (v1 : Int32) (v2 : Int32) (k_v0 : kf_kd G v0 = 13) (σ : kf_St) {q : (Int32 × kf_St)} (h : f_X12_timesDue v0 v1 v2 σ = some q) : kf_Ct (2) yX12_timesDue cX12_timesDue 5 (some .int) G [.ref (kf_ad G v0), .int v1, .int v2] σ (some (.int q.1)) q.2 := by
  refine kf_Ct.of hty.1 (lv := [(0, .ref (kf_ad G v0)), (1, .int v1), (2, .int v2)]) (by decide +kernel) rfl (Nat.le_of_ble_eq_true rfl) (fun X E => ?_)
  unfold f_X12_timesDue at h
  refine wa_iconst 0 ic_0 E d_X12_timesDue_0 ?_
  refine wa_istore_n (lv' := [(3, .int 0), (0, .ref (kf_ad G v0)), (1, .int v1), (2, .int v2)]) rfl (by decide) rfl E d_X12_timesDue_1 ?_
  refine wa_iconst 0 ic_0 E d_X12_timesDue_2 ?_
  refine wa_istore (lv' := [(4, .int 0), (3, .int 0), (0, .ref (kf_ad G v0)), (1, .int v1), (2, .int v2)]) (by decide) rfl E d_X12_timesDue_3 ?_
  refine wa_sub [2, 3, 4, 1, 0] rfl ?_
  exact b_X12_timesDue_5 E hty kf_F v0 v1 v2 0 0 k_v0 σ h
/-! X12_calls -/
theorem d_X12_calls_0 : kf_dq cX12_calls 0 1 1 (.aload_n 0) := ⟨by decide +kernel, rfl⟩
theorem d_X12_calls_1 : kf_dq cX12_calls 1 2 1 (.iload_n 1) := ⟨by decide +kernel, rfl⟩
theorem d_X12_calls_2 : kf_dq cX12_calls 2 5 3 (.invokevirtual 387) := ⟨by decide +kernel, rfl⟩
theorem d_X12_calls_5 : kf_dj cX12_calls 5 8 15 (.ifCond .eq) := ⟨10, by decide +kernel, rfl, by decide⟩
theorem d_X12_calls_8 : kf_dq cX12_calls 8 9 1 (.iload_n 2) := ⟨by decide +kernel, rfl⟩
theorem d_X12_calls_9 : kf_dq cX12_calls 9 12 3 (.invokestatic 427) := ⟨by decide +kernel, rfl⟩
theorem d_X12_calls_12 : kf_dj cX12_calls 12 15 17 (.ifCond .ne) := ⟨5, by decide +kernel, rfl, by decide⟩
theorem d_X12_calls_15 : kf_dq cX12_calls 15 16 1 (.iconst (-1)) := ⟨by decide +kernel, rfl⟩
theorem d_X12_calls_16 : kf_dq cX12_calls 16 17 1 (.ireturn) := ⟨by decide +kernel, rfl⟩
theorem d_X12_calls_17 : kf_dq cX12_calls 17 18 1 (.iconst 0) := ⟨by decide +kernel, rfl⟩
theorem d_X12_calls_18 : kf_dq cX12_calls 18 19 1 (.istore_n 3) := ⟨by decide +kernel, rfl⟩
theorem d_X12_calls_19 : kf_dq cX12_calls 19 20 1 (.iconst 0) := ⟨by decide +kernel, rfl⟩
theorem d_X12_calls_20 : kf_dq cX12_calls 20 22 2 (.istore 4) := ⟨by decide +kernel, rfl⟩
theorem d_X12_calls_22 : kf_dq cX12_calls 22 24 2 (.iload 4) := ⟨by decide +kernel, rfl⟩
theorem d_X12_calls_24 : kf_dq cX12_calls 24 25 1 (.aload_n 0) := ⟨by decide +kernel, rfl⟩
theorem d_X12_calls_25 : kf_dq cX12_calls 25 28 3 (.getfield 58) := ⟨by decide +kernel, rfl⟩
theorem d_X12_calls_28 : kf_dq cX12_calls 28 29 1 (.aload_n 0) := ⟨by decide +kernel, rfl⟩
theorem d_X12_calls_29 : kf_dq cX12_calls 29 32 3 (.getfield 233) := ⟨by decide +kernel, rfl⟩
theorem d_X12_calls_32 : kf_dq cX12_calls 32 33 1 (.iaload) := ⟨by decide +kernel, rfl⟩
theorem d_X12_calls_33 : kf_dj cX12_calls 33 36 71 (.if_icmp .ge) := ⟨38, by decide +kernel, rfl, by decide⟩
theorem d_X12_calls_36 : kf_dq cX12_calls 36 37 1 (.aload_n 0) := ⟨by decide +kernel, rfl⟩
theorem d_X12_calls_37 : kf_dq cX12_calls 37 40 3 (.getfield 64) := ⟨by decide +kernel, rfl⟩
theorem d_X12_calls_40 : kf_dq cX12_calls 40 42 2 (.bipush 10) := ⟨by decide +kernel, rfl⟩
theorem d_X12_calls_42 : kf_dq cX12_calls 42 43 1 (.aload_n 0) := ⟨by decide +kernel, rfl⟩
theorem d_X12_calls_43 : kf_dq cX12_calls 43 46 3 (.getfield 233) := ⟨by decide +kernel, rfl⟩
theorem d_X12_calls_46 : kf_dq cX12_calls 46 47 1 (.imul) := ⟨by decide +kernel, rfl⟩
theorem d_X12_calls_47 : kf_dq cX12_calls 47 49 2 (.iload 4) := ⟨by decide +kernel, rfl⟩
theorem d_X12_calls_49 : kf_dq cX12_calls 49 50 1 (.iadd) := ⟨by decide +kernel, rfl⟩
theorem d_X12_calls_50 : kf_dq cX12_calls 50 51 1 (.iaload) := ⟨by decide +kernel, rfl⟩
theorem d_X12_calls_51 : kf_dq cX12_calls 51 52 1 (.iload_n 1) := ⟨by decide +kernel, rfl⟩
theorem d_X12_calls_52 : kf_dj cX12_calls 52 55 65 (.if_icmp .ne) := ⟨13, by decide +kernel, rfl, by decide⟩
theorem d_X12_calls_55 : kf_dq cX12_calls 55 56 1 (.iload_n 3) := ⟨by decide +kernel, rfl⟩
theorem d_X12_calls_56 : kf_dq cX12_calls 56 57 1 (.aload_n 0) := ⟨by decide +kernel, rfl⟩
theorem d_X12_calls_57 : kf_dq cX12_calls 57 59 2 (.iload 4) := ⟨by decide +kernel, rfl⟩
theorem d_X12_calls_59 : kf_dq cX12_calls 59 60 1 (.iload_n 2) := ⟨by decide +kernel, rfl⟩
theorem d_X12_calls_60 : kf_dq cX12_calls 60 63 3 (.invokevirtual 448) := ⟨by decide +kernel, rfl⟩
theorem d_X12_calls_63 : kf_dq cX12_calls 63 64 1 (.iadd) := ⟨by decide +kernel, rfl⟩
theorem d_X12_calls_64 : kf_dq cX12_calls 64 65 1 (.istore_n 3) := ⟨by decide +kernel, rfl⟩
theorem d_X12_calls_65 : kf_dq cX12_calls 65 68 3 (.iinc 4 1) := ⟨by decide +kernel, rfl⟩
theorem d_X12_calls_68 : kf_dj cX12_calls 68 71 22 .goto := ⟨(-46), by decide +kernel, rfl, by decide⟩
theorem d_X12_calls_71 : kf_dq cX12_calls 71 72 1 (.iload_n 3) := ⟨by decide +kernel, rfl⟩
theorem d_X12_calls_72 : kf_dq cX12_calls 72 73 1 (.ireturn) := ⟨by decide +kernel, rfl⟩
def f_X12_calls_65 (rec22 : Nat → Int32 → Int32 → Int32 → Int32 → kf_St → Option (Int32 × kf_St)) (v0 : Nat) (v1 : Int32) (v2 : Int32) (v3 : Int32) (v4 : Int32) (σ : kf_St) : Option (Int32 × kf_St) :=
  kf_lt (v4 + 1) fun v4_1 =>
  rec22 v0 v1 v2 v3 v4_1 σ
set_option maxRecDepth 100000 in
set_option maxHeartbeats 4000000 in
theorem b_X12_calls_65 {X : kf_X} {G : kf_G} {rec22 : Nat → Int32 → Int32 → Int32 → Int32 → kf_St → Option (Int32 × kf_St)} {q : (Int32 × kf_St)} (E : kf_ok X G cX12_calls RX12 5 (some .int) (3)) (hty : kf_wt G) (hrec22 : ∀ (v0 : Nat) (v1 : Int32) (v2 : Int32) (v3 : Int32) (v4 : Int32) (k_v0 : kf_kd G v0 = 13) (σ : kf_St), rec22 v0 v1 v2 v3 v4 σ = some q → kf_WA X G 5 (kf_Q X G (some (.int q.1)) q.2) 22 [(0, .ref (kf_ad G v0)), (1, .int v1), (2, .int v2), (3, .int v3), (4, .int v4)] [] σ) (v0 : Nat) (v1 : Int32) (v2 : Int32) (v3 : Int32) (v4 : Int32) (k_v0 : kf_kd G v0 = 13) (σ : kf_St) (h : f_X12_calls_65 rec22 v0 v1 v2 v3 v4 σ = some q) : kf_WA X G 5 (kf_Q X G (some (.int q.1)) q.2) 65 [(0, .ref (kf_ad G v0)), (1, .int v1), (2, .int v2), (3, .int v3), (4, .int v4)] [] σ := by
  unfold f_X12_calls_65 at h
  obtain ⟨v4_1, ev4_1, h⟩ := kf_lte h
  refine wa_iinc (lv' := [(4, .int v4_1), (0, .ref (kf_ad G v0)), (1, .int v1), (2, .int v2), (3, .int v3)]) v4_1 4 rfl (kf_inc ic_1 ev4_1) (by decide) rfl E d_X12_calls_65 ?_
  refine wa_goto E d_X12_calls_68 ?_
  refine wa_sub [1, 2, 3, 4, 0] rfl ?_
  exact hrec22 v0 v1 v2 v3 v4_1 k_v0 σ h
def f_X12_calls_22_s (rec22 : Nat → Int32 → Int32 → Int32 → Int32 → kf_St → Option (Int32 × kf_St)) (v0 : Nat) (v1 : Int32) (v2 : Int32) (v3 : Int32) (v4 : Int32) (σ : kf_St) : Option (Int32 × kf_St) :=
  if kf_ix (σ.1 v0 18) (kf_ln (kf_rf v0 27)) = true then
  if (σ.1 (kf_rf v0 27) (Int32.toNatClampNeg (σ.1 v0 18))) ≤ v4 then
    some (v3, σ)
  else
    if kf_ix ((10 * (σ.1 v0 18)) + v4) (kf_ln (kf_rf v0 29)) = true then
    if (σ.1 (kf_rf v0 29) (Int32.toNatClampNeg ((10 * (σ.1 v0 18)) + v4))) = v1 then
      (f_X12_timesDue v0 v4 v2 σ).bind fun q_5 =>
      kf_lt ((v3 + q_5.1)) fun v3_6 =>
      f_X12_calls_65 rec22 v0 v1 v2 v3_6 v4 q_5.2
    else
      f_X12_calls_65 rec22 v0 v1 v2 v3 v4 σ
    else none
  else none
def f_X12_calls_22 : Nat → Nat → Int32 → Int32 → Int32 → Int32 → kf_St → Option (Int32 × kf_St)
  | 0, _, _, _, _, _, _ => none
  | n + 1, v0, v1, v2, v3, v4, σ => f_X12_calls_22_s (f_X12_calls_22 n) v0 v1 v2 v3 v4 σ
set_option maxRecDepth 100000 in
set_option maxHeartbeats 4000000 in
theorem b_X12_calls_22_s {X : kf_X} {G : kf_G} (rec22 : Nat → Int32 → Int32 → Int32 → Int32 → kf_St → Option (Int32 × kf_St)) {q : (Int32 × kf_St)} (E : kf_ok X G cX12_calls RX12 5 (some .int) (3)) (hty : kf_wt G) (hrec22 : ∀ (v0 : Nat) (v1 : Int32) (v2 : Int32) (v3 : Int32) (v4 : Int32) (k_v0 : kf_kd G v0 = 13) (σ : kf_St), rec22 v0 v1 v2 v3 v4 σ = some q → kf_WA X G 5 (kf_Q X G (some (.int q.1)) q.2) 22 [(0, .ref (kf_ad G v0)), (1, .int v1), (2, .int v2), (3, .int v3), (4, .int v4)] [] σ) (v0 : Nat) (v1 : Int32) (v2 : Int32) (v3 : Int32) (v4 : Int32) (k_v0 : kf_kd G v0 = 13) (σ : kf_St) (h : f_X12_calls_22_s rec22 v0 v1 v2 v3 v4 σ = some q) : kf_WA X G 5 (kf_Q X G (some (.int q.1)) q.2) 22 [(0, .ref (kf_ad G v0)), (1, .int v1), (2, .int v2), (3, .int v3), (4, .int v4)] [] σ := by
  unfold f_X12_calls_22_s at h
  refine wa_iload 4 rfl E d_X12_calls_22 ?_
  refine wa_aload_n 0 rfl E d_X12_calls_24 ?_
  refine wa_getR fl_X12_58 k_v0 rfl E d_X12_calls_25 ?_
  refine wa_aload_n 0 rfl E d_X12_calls_28 ?_
  refine wa_getI fl_X12_233 k_v0 rfl E d_X12_calls_29 ?_
  obtain ⟨g_1, h⟩ := kf_gd h
  refine wa_iald (kf_wtf hty 27 49 k_v0 (by decide) rfl) g_1 E d_X12_calls_32 ?_
  refine wa_icmp_ge E d_X12_calls_33 (fun c_2 => ?_) (fun c_2 => ?_)
  · replace h := kf_ift c_2 h
    refine wa_iload_n 3 rfl E d_X12_calls_71 ?_
    cases h
    exact wa_iret E d_X12_calls_72
  · replace h := kf_iff c_2 h
    refine wa_aload_n 0 rfl E d_X12_calls_36 ?_
    refine wa_getR fl_X12_64 k_v0 rfl E d_X12_calls_37 ?_
    refine wa_bipush 10 bp_10 E d_X12_calls_40 ?_
    refine wa_aload_n 0 rfl E d_X12_calls_42 ?_
    refine wa_getI fl_X12_233 k_v0 rfl E d_X12_calls_43 ?_
    refine wa_imul E d_X12_calls_46 ?_
    refine wa_iload 4 rfl E d_X12_calls_47 ?_
    refine wa_iadd E d_X12_calls_49 ?_
    obtain ⟨g_3, h⟩ := kf_gd h
    refine wa_iald (kf_wtf hty 29 49 k_v0 (by decide) rfl) g_3 E d_X12_calls_50 ?_
    refine wa_iload_n 1 rfl E d_X12_calls_51 ?_
    refine wa_icmp_ne E d_X12_calls_52 (fun c_4 => ?_) (fun c_4 => ?_)
    · replace h := kf_iff c_4 h
      exact b_X12_calls_65 E hty hrec22 v0 v1 v2 v3 v4 k_v0 σ h
    · replace h := kf_ift c_4 h
      refine wa_iload_n 3 rfl E d_X12_calls_55 ?_
      refine wa_aload_n 0 rfl E d_X12_calls_56 ?_
      refine wa_iload 4 rfl E d_X12_calls_57 ?_
      refine wa_iload_n 2 rfl E d_X12_calls_59 ?_
      obtain ⟨q_5, hq_5, h⟩ := kf_bd h
      refine wa_callV (st2 := [.int q_5.1, .int v3]) (c_X12_timesDue hty v0 v4 v2 k_v0 σ hq_5) mv_X12_timesDue ml_X12_448 k_v0 rfl (Nat.le_of_ble_eq_true rfl) rfl (Nat.le_of_ble_eq_true rfl) E d_X12_calls_60 rfl ?_
      refine wa_iadd E d_X12_calls_63 ?_
      obtain ⟨v3_6, ev3_6, h⟩ := kf_lte h
      refine wa_topi ev3_6 ?_
      refine wa_istore_n (lv' := [(3, .int v3_6), (0, .ref (kf_ad G v0)), (1, .int v1), (2, .int v2), (4, .int v4)]) rfl (by decide) rfl E d_X12_calls_64 ?_
      refine wa_sub [1, 2, 3, 0, 4] rfl ?_
      exact b_X12_calls_65 E hty hrec22 v0 v1 v2 v3_6 v4 k_v0 q_5.2 h
theorem b_X12_calls_22 {X : kf_X} {G : kf_G} {q : (Int32 × kf_St)} (E : kf_ok X G cX12_calls RX12 5 (some .int) (3)) (hty : kf_wt G) : ∀ (N : Nat) (v0 : Nat) (v1 : Int32) (v2 : Int32) (v3 : Int32) (v4 : Int32) (k_v0 : kf_kd G v0 = 13) (σ : kf_St) (_ : f_X12_calls_22 N v0 v1 v2 v3 v4 σ = some q), kf_WA X G 5 (kf_Q X G (some (.int q.1)) q.2) 22 [(0, .ref (kf_ad G v0)), (1, .int v1), (2, .int v2), (3, .int v3), (4, .int v4)] [] σ
  | 0, _, _, _, _, _, _, _, h => by cases h
  | N + 1, v0, v1, v2, v3, v4, k_v0, σ, h => b_X12_calls_22_s _ E hty (b_X12_calls_22 E hty N) v0 v1 v2 v3 v4 k_v0 σ h
def f_X12_calls (v0 : Nat) (v1 : Int32) (v2 : Int32) (σ : kf_St) : Option (Int32 × kf_St) :=
  (f_X12_isDoor v0 v1 σ).bind fun q_1 =>
  if q_1.1 = 0 then
    some ((-1), q_1.2)
  else
    (f_X12_isSome v2 q_1.2).bind fun q_3 =>
    if q_3.1 = 0 then
      some ((-1), q_3.2)
    else
      f_X12_calls_22 kf_F v0 v1 v2 0 0 q_3.2
set_option maxRecDepth 100000 in
set_option maxHeartbeats 4000000 in
theorem c_X12_calls {G : kf_G} (hty : kf_wt G) (v0 : Nat) (v1 : Int32) (v2 : Int32) (k_v0 : kf_kd G v0 = 13) (σ : kf_St) {q : (Int32 × kf_St)} (h : f_X12_calls v0 v1 v2 σ = some q) : kf_Ct (3) yX12_calls cX12_calls 5 (some .int) G [.ref (kf_ad G v0), .int v1, .int v2] σ (some (.int q.1)) q.2 := by
  refine kf_Ct.of hty.1 (lv := [(0, .ref (kf_ad G v0)), (1, .int v1), (2, .int v2)]) (by decide +kernel) rfl (Nat.le_of_ble_eq_true rfl) (fun X E => ?_)
  unfold f_X12_calls at h
  refine wa_aload_n 0 rfl E d_X12_calls_0 ?_
  refine wa_iload_n 1 rfl E d_X12_calls_1 ?_
  obtain ⟨q_1, hq_1, h⟩ := kf_bd h
  refine wa_callV (st2 := [.int q_1.1]) (c_X12_isDoor hty v0 v1 k_v0 σ hq_1) mv_X12_isDoor ml_X12_387 k_v0 rfl (Nat.le_of_ble_eq_true rfl) rfl (Nat.le_of_ble_eq_true rfl) E d_X12_calls_2 rfl ?_
  refine wa_if_eq E d_X12_calls_5 (fun c_2 => ?_) (fun c_2 => ?_)
  · replace h := kf_ift c_2 h
    refine wa_iconst (-1) ic_m1 E d_X12_calls_15 ?_
    cases h
    exact wa_iret E d_X12_calls_16
  · replace h := kf_iff c_2 h
    refine wa_iload_n 2 rfl E d_X12_calls_8 ?_
    obtain ⟨q_3, hq_3, h⟩ := kf_bd h
    refine wa_callS (st2 := [.int q_3.1]) (c_X12_isSome hty v2 q_1.2 hq_3) mt_X12_isSome ml_X12_427 rfl (Nat.le_of_ble_eq_true rfl) rfl (Nat.le_of_ble_eq_true rfl) E d_X12_calls_9 rfl ?_
    refine wa_if_ne E d_X12_calls_12 (fun c_4 => ?_) (fun c_4 => ?_)
    · replace h := kf_iff c_4 h
      refine wa_iconst 0 ic_0 E d_X12_calls_17 ?_
      refine wa_istore_n (lv' := [(3, .int 0), (0, .ref (kf_ad G v0)), (1, .int v1), (2, .int v2)]) rfl (by decide) rfl E d_X12_calls_18 ?_
      refine wa_iconst 0 ic_0 E d_X12_calls_19 ?_
      refine wa_istore (lv' := [(4, .int 0), (3, .int 0), (0, .ref (kf_ad G v0)), (1, .int v1), (2, .int v2)]) (by decide) rfl E d_X12_calls_20 ?_
      refine wa_sub [2, 3, 4, 1, 0] rfl ?_
      exact b_X12_calls_22 E hty kf_F v0 v1 v2 0 0 k_v0 q_3.2 h
    · replace h := kf_ift c_4 h
      refine wa_iconst (-1) ic_m1 E d_X12_calls_15 ?_
      cases h
      exact wa_iret E d_X12_calls_16
/-! X12_busy -/
theorem d_X12_busy_0 : kf_dq cX12_busy 0 1 1 (.iload_n 1) := ⟨by decide +kernel, rfl⟩
theorem d_X12_busy_1 : kf_dq cX12_busy 1 4 3 (.invokestatic 427) := ⟨by decide +kernel, rfl⟩
theorem d_X12_busy_4 : kf_dj cX12_busy 4 7 16 (.ifCond .eq) := ⟨12, by decide +kernel, rfl, by decide⟩
theorem d_X12_busy_7 : kf_dq cX12_busy 7 8 1 (.iload_n 2) := ⟨by decide +kernel, rfl⟩
theorem d_X12_busy_8 : kf_dq cX12_busy 8 9 1 (.iconst 0) := ⟨by decide +kernel, rfl⟩
theorem d_X12_busy_9 : kf_dq cX12_busy 9 10 1 (.iconst 1) := ⟨by decide +kernel, rfl⟩
theorem d_X12_busy_10 : kf_dq cX12_busy 10 13 3 (.invokestatic 313) := ⟨by decide +kernel, rfl⟩
theorem d_X12_busy_13 : kf_dj cX12_busy 13 16 18 (.ifCond .ne) := ⟨5, by decide +kernel, rfl, by decide⟩
theorem d_X12_busy_16 : kf_dq cX12_busy 16 17 1 (.iconst (-1)) := ⟨by decide +kernel, rfl⟩
theorem d_X12_busy_17 : kf_dq cX12_busy 17 18 1 (.ireturn) := ⟨by decide +kernel, rfl⟩
theorem d_X12_busy_18 : kf_dq cX12_busy 18 19 1 (.aload_n 0) := ⟨by decide +kernel, rfl⟩
theorem d_X12_busy_19 : kf_dq cX12_busy 19 22 3 (.getfield 52) := ⟨by decide +kernel, rfl⟩
theorem d_X12_busy_22 : kf_dq cX12_busy 22 23 1 (.aload_n 0) := ⟨by decide +kernel, rfl⟩
theorem d_X12_busy_23 : kf_dq cX12_busy 23 26 3 (.getfield 233) := ⟨by decide +kernel, rfl⟩
theorem d_X12_busy_26 : kf_dq cX12_busy 26 27 1 (.iaload) := ⟨by decide +kernel, rfl⟩
theorem d_X12_busy_27 : kf_dj cX12_busy 27 30 33 (.ifCond .ne) := ⟨6, by decide +kernel, rfl, by decide⟩
theorem d_X12_busy_30 : kf_dq cX12_busy 30 32 2 (.bipush (-2)) := ⟨by decide +kernel, rfl⟩
theorem d_X12_busy_32 : kf_dq cX12_busy 32 33 1 (.ireturn) := ⟨by decide +kernel, rfl⟩
theorem d_X12_busy_33 : kf_dq cX12_busy 33 34 1 (.iconst 0) := ⟨by decide +kernel, rfl⟩
theorem d_X12_busy_34 : kf_dq cX12_busy 34 35 1 (.istore_n 3) := ⟨by decide +kernel, rfl⟩
theorem d_X12_busy_35 : kf_dq cX12_busy 35 36 1 (.iload_n 3) := ⟨by decide +kernel, rfl⟩
theorem d_X12_busy_36 : kf_dq cX12_busy 36 37 1 (.iconst 5) := ⟨by decide +kernel, rfl⟩
theorem d_X12_busy_37 : kf_dj cX12_busy 37 40 53 (.if_icmp .ge) := ⟨16, by decide +kernel, rfl, by decide⟩
theorem d_X12_busy_40 : kf_dq cX12_busy 40 41 1 (.aload_n 0) := ⟨by decide +kernel, rfl⟩
theorem d_X12_busy_41 : kf_dq cX12_busy 41 44 3 (.getfield 134) := ⟨by decide +kernel, rfl⟩
theorem d_X12_busy_44 : kf_dq cX12_busy 44 45 1 (.iload_n 3) := ⟨by decide +kernel, rfl⟩
theorem d_X12_busy_45 : kf_dq cX12_busy 45 46 1 (.iconst 0) := ⟨by decide +kernel, rfl⟩
theorem d_X12_busy_46 : kf_dq cX12_busy 46 47 1 (.iastore) := ⟨by decide +kernel, rfl⟩
theorem d_X12_busy_47 : kf_dq cX12_busy 47 50 3 (.iinc 3 1) := ⟨by decide +kernel, rfl⟩
theorem d_X12_busy_50 : kf_dj cX12_busy 50 53 35 .goto := ⟨(-15), by decide +kernel, rfl, by decide⟩
theorem d_X12_busy_53 : kf_dq cX12_busy 53 54 1 (.iconst 0) := ⟨by decide +kernel, rfl⟩
theorem d_X12_busy_54 : kf_dq cX12_busy 54 55 1 (.istore_n 3) := ⟨by decide +kernel, rfl⟩
theorem d_X12_busy_55 : kf_dq cX12_busy 55 56 1 (.iload_n 3) := ⟨by decide +kernel, rfl⟩
theorem d_X12_busy_56 : kf_dq cX12_busy 56 57 1 (.aload_n 0) := ⟨by decide +kernel, rfl⟩
theorem d_X12_busy_57 : kf_dq cX12_busy 57 60 3 (.getfield 58) := ⟨by decide +kernel, rfl⟩
theorem d_X12_busy_60 : kf_dq cX12_busy 60 61 1 (.aload_n 0) := ⟨by decide +kernel, rfl⟩
theorem d_X12_busy_61 : kf_dq cX12_busy 61 64 3 (.getfield 233) := ⟨by decide +kernel, rfl⟩
theorem d_X12_busy_64 : kf_dq cX12_busy 64 65 1 (.iaload) := ⟨by decide +kernel, rfl⟩
theorem d_X12_busy_65 : kf_dj cX12_busy 65 68 102 (.if_icmp .ge) := ⟨37, by decide +kernel, rfl, by decide⟩
theorem d_X12_busy_68 : kf_dq cX12_busy 68 69 1 (.aload_n 0) := ⟨by decide +kernel, rfl⟩
theorem d_X12_busy_69 : kf_dq cX12_busy 69 72 3 (.getfield 134) := ⟨by decide +kernel, rfl⟩
theorem d_X12_busy_72 : kf_dq cX12_busy 72 73 1 (.aload_n 0) := ⟨by decide +kernel, rfl⟩
theorem d_X12_busy_73 : kf_dq cX12_busy 73 76 3 (.getfield 61) := ⟨by decide +kernel, rfl⟩
theorem d_X12_busy_76 : kf_dq cX12_busy 76 78 2 (.bipush 10) := ⟨by decide +kernel, rfl⟩
theorem d_X12_busy_78 : kf_dq cX12_busy 78 79 1 (.aload_n 0) := ⟨by decide +kernel, rfl⟩
theorem d_X12_busy_79 : kf_dq cX12_busy 79 82 3 (.getfield 233) := ⟨by decide +kernel, rfl⟩
theorem d_X12_busy_82 : kf_dq cX12_busy 82 83 1 (.imul) := ⟨by decide +kernel, rfl⟩
theorem d_X12_busy_83 : kf_dq cX12_busy 83 84 1 (.iload_n 3) := ⟨by decide +kernel, rfl⟩
theorem d_X12_busy_84 : kf_dq cX12_busy 84 85 1 (.iadd) := ⟨by decide +kernel, rfl⟩
theorem d_X12_busy_85 : kf_dq cX12_busy 85 86 1 (.iaload) := ⟨by decide +kernel, rfl⟩
theorem d_X12_busy_86 : kf_dq cX12_busy 86 87 1 (.dup2) := ⟨by decide +kernel, rfl⟩
theorem d_X12_busy_87 : kf_dq cX12_busy 87 88 1 (.iaload) := ⟨by decide +kernel, rfl⟩
theorem d_X12_busy_88 : kf_dq cX12_busy 88 89 1 (.aload_n 0) := ⟨by decide +kernel, rfl⟩
theorem d_X12_busy_89 : kf_dq cX12_busy 89 90 1 (.iload_n 3) := ⟨by decide +kernel, rfl⟩
theorem d_X12_busy_90 : kf_dq cX12_busy 90 91 1 (.iload_n 1) := ⟨by decide +kernel, rfl⟩
theorem d_X12_busy_91 : kf_dq cX12_busy 91 94 3 (.invokevirtual 448) := ⟨by decide +kernel, rfl⟩
theorem d_X12_busy_94 : kf_dq cX12_busy 94 95 1 (.iadd) := ⟨by decide +kernel, rfl⟩
theorem d_X12_busy_95 : kf_dq cX12_busy 95 96 1 (.iastore) := ⟨by decide +kernel, rfl⟩
theorem d_X12_busy_96 : kf_dq cX12_busy 96 99 3 (.iinc 3 1) := ⟨by decide +kernel, rfl⟩
theorem d_X12_busy_99 : kf_dj cX12_busy 99 102 55 .goto := ⟨(-44), by decide +kernel, rfl, by decide⟩
theorem d_X12_busy_102 : kf_dq cX12_busy 102 103 1 (.iconst 0) := ⟨by decide +kernel, rfl⟩
theorem d_X12_busy_103 : kf_dq cX12_busy 103 104 1 (.istore_n 3) := ⟨by decide +kernel, rfl⟩
theorem d_X12_busy_104 : kf_dq cX12_busy 104 105 1 (.iconst 1) := ⟨by decide +kernel, rfl⟩
theorem d_X12_busy_105 : kf_dq cX12_busy 105 107 2 (.istore 4) := ⟨by decide +kernel, rfl⟩
theorem d_X12_busy_107 : kf_dq cX12_busy 107 109 2 (.iload 4) := ⟨by decide +kernel, rfl⟩
theorem d_X12_busy_109 : kf_dq cX12_busy 109 110 1 (.aload_n 0) := ⟨by decide +kernel, rfl⟩
theorem d_X12_busy_110 : kf_dq cX12_busy 110 113 3 (.getfield 52) := ⟨by decide +kernel, rfl⟩
theorem d_X12_busy_113 : kf_dq cX12_busy 113 114 1 (.aload_n 0) := ⟨by decide +kernel, rfl⟩
theorem d_X12_busy_114 : kf_dq cX12_busy 114 117 3 (.getfield 233) := ⟨by decide +kernel, rfl⟩
theorem d_X12_busy_117 : kf_dq cX12_busy 117 118 1 (.iaload) := ⟨by decide +kernel, rfl⟩
theorem d_X12_busy_118 : kf_dj cX12_busy 118 121 146 (.if_icmp .ge) := ⟨28, by decide +kernel, rfl, by decide⟩
theorem d_X12_busy_121 : kf_dq cX12_busy 121 122 1 (.aload_n 0) := ⟨by decide +kernel, rfl⟩
theorem d_X12_busy_122 : kf_dq cX12_busy 122 125 3 (.getfield 134) := ⟨by decide +kernel, rfl⟩
theorem d_X12_busy_125 : kf_dq cX12_busy 125 127 2 (.iload 4) := ⟨by decide +kernel, rfl⟩
theorem d_X12_busy_127 : kf_dq cX12_busy 127 128 1 (.iaload) := ⟨by decide +kernel, rfl⟩
theorem d_X12_busy_128 : kf_dq cX12_busy 128 129 1 (.aload_n 0) := ⟨by decide +kernel, rfl⟩
theorem d_X12_busy_129 : kf_dq cX12_busy 129 132 3 (.getfield 134) := ⟨by decide +kernel, rfl⟩
theorem d_X12_busy_132 : kf_dq cX12_busy 132 133 1 (.iload_n 3) := ⟨by decide +kernel, rfl⟩
theorem d_X12_busy_133 : kf_dq cX12_busy 133 134 1 (.iaload) := ⟨by decide +kernel, rfl⟩
theorem d_X12_busy_134 : kf_dj cX12_busy 134 137 140 (.if_icmp .le) := ⟨6, by decide +kernel, rfl, by decide⟩
theorem d_X12_busy_137 : kf_dq cX12_busy 137 139 2 (.iload 4) := ⟨by decide +kernel, rfl⟩
theorem d_X12_busy_139 : kf_dq cX12_busy 139 140 1 (.istore_n 3) := ⟨by decide +kernel, rfl⟩
theorem d_X12_busy_140 : kf_dq cX12_busy 140 143 3 (.iinc 4 1) := ⟨by decide +kernel, rfl⟩
theorem d_X12_busy_143 : kf_dj cX12_busy 143 146 107 .goto := ⟨(-36), by decide +kernel, rfl, by decide⟩
theorem d_X12_busy_146 : kf_dq cX12_busy 146 147 1 (.iload_n 2) := ⟨by decide +kernel, rfl⟩
theorem d_X12_busy_147 : kf_dj cX12_busy 147 150 154 (.ifCond .ne) := ⟨7, by decide +kernel, rfl, by decide⟩
theorem d_X12_busy_150 : kf_dq cX12_busy 150 151 1 (.iload_n 3) := ⟨by decide +kernel, rfl⟩
theorem d_X12_busy_151 : kf_dj cX12_busy 151 154 160 .goto := ⟨9, by decide +kernel, rfl, by decide⟩
theorem d_X12_busy_154 : kf_dq cX12_busy 154 155 1 (.aload_n 0) := ⟨by decide +kernel, rfl⟩
theorem d_X12_busy_155 : kf_dq cX12_busy 155 158 3 (.getfield 134) := ⟨by decide +kernel, rfl⟩
theorem d_X12_busy_158 : kf_dq cX12_busy 158 159 1 (.iload_n 3) := ⟨by decide +kernel, rfl⟩
theorem d_X12_busy_159 : kf_dq cX12_busy 159 160 1 (.iaload) := ⟨by decide +kernel, rfl⟩
theorem d_X12_busy_160 : kf_dq cX12_busy 160 161 1 (.ireturn) := ⟨by decide +kernel, rfl⟩
def f_X12_busy_140 (rec107 : Nat → Int32 → Int32 → Int32 → kf_St → Option (Int32 × kf_St)) (v0 : Nat) (v2 : Int32) (v3 : Int32) (v4 : Int32) (σ : kf_St) : Option (Int32 × kf_St) :=
  kf_lt (v4 + 1) fun v4_1 =>
  rec107 v0 v2 v3 v4_1 σ
set_option maxRecDepth 100000 in
set_option maxHeartbeats 4000000 in
theorem b_X12_busy_140 {X : kf_X} {G : kf_G} {rec107 : Nat → Int32 → Int32 → Int32 → kf_St → Option (Int32 × kf_St)} {q : (Int32 × kf_St)} (E : kf_ok X G cX12_busy RX12 5 (some .int) (3)) (hty : kf_wt G) (hrec107 : ∀ (v0 : Nat) (v2 : Int32) (v3 : Int32) (v4 : Int32) (k_v0 : kf_kd G v0 = 13) (σ : kf_St), rec107 v0 v2 v3 v4 σ = some q → kf_WA X G 5 (kf_Q X G (some (.int q.1)) q.2) 107 [(0, .ref (kf_ad G v0)), (2, .int v2), (3, .int v3), (4, .int v4)] [] σ) (v0 : Nat) (v2 : Int32) (v3 : Int32) (v4 : Int32) (k_v0 : kf_kd G v0 = 13) (σ : kf_St) (h : f_X12_busy_140 rec107 v0 v2 v3 v4 σ = some q) : kf_WA X G 5 (kf_Q X G (some (.int q.1)) q.2) 140 [(0, .ref (kf_ad G v0)), (2, .int v2), (3, .int v3), (4, .int v4)] [] σ := by
  unfold f_X12_busy_140 at h
  obtain ⟨v4_1, ev4_1, h⟩ := kf_lte h
  refine wa_iinc (lv' := [(4, .int v4_1), (0, .ref (kf_ad G v0)), (2, .int v2), (3, .int v3)]) v4_1 3 rfl (kf_inc ic_1 ev4_1) (by decide) rfl E d_X12_busy_140 ?_
  refine wa_goto E d_X12_busy_143 ?_
  refine wa_sub [1, 2, 3, 0] rfl ?_
  exact hrec107 v0 v2 v3 v4_1 k_v0 σ h
def f_X12_busy_107_s (rec107 : Nat → Int32 → Int32 → Int32 → kf_St → Option (Int32 × kf_St)) (v0 : Nat) (v2 : Int32) (v3 : Int32) (v4 : Int32) (σ : kf_St) : Option (Int32 × kf_St) :=
  if kf_ix (σ.1 v0 18) (kf_ln (kf_rf v0 25)) = true then
  if (σ.1 (kf_rf v0 25) (Int32.toNatClampNeg (σ.1 v0 18))) ≤ v4 then
    if v2 = 0 then
      some (v3, σ)
    else
      if kf_ix v3 (kf_ln (kf_rf v0 59)) = true then
      some ((σ.1 (kf_rf v0 59) (Int32.toNatClampNeg v3)), σ)
      else none
  else
    if kf_ix v4 (kf_ln (kf_rf v0 59)) = true then
    if kf_ix v3 (kf_ln (kf_rf v0 59)) = true then
    if (σ.1 (kf_rf v0 59) (Int32.toNatClampNeg v4)) ≤ (σ.1 (kf_rf v0 59) (Int32.toNatClampNeg v3)) then
      f_X12_busy_140 rec107 v0 v2 v3 v4 σ
    else
      f_X12_busy_140 rec107 v0 v2 v4 v4 σ
    else none
    else none
  else none
def f_X12_busy_107 : Nat → Nat → Int32 → Int32 → Int32 → kf_St → Option (Int32 × kf_St)
  | 0, _, _, _, _, _ => none
  | n + 1, v0, v2, v3, v4, σ => f_X12_busy_107_s (f_X12_busy_107 n) v0 v2 v3 v4 σ
set_option maxRecDepth 100000 in
set_option maxHeartbeats 4000000 in
theorem b_X12_busy_107_s {X : kf_X} {G : kf_G} (rec107 : Nat → Int32 → Int32 → Int32 → kf_St → Option (Int32 × kf_St)) {q : (Int32 × kf_St)} (E : kf_ok X G cX12_busy RX12 5 (some .int) (3)) (hty : kf_wt G) (hrec107 : ∀ (v0 : Nat) (v2 : Int32) (v3 : Int32) (v4 : Int32) (k_v0 : kf_kd G v0 = 13) (σ : kf_St), rec107 v0 v2 v3 v4 σ = some q → kf_WA X G 5 (kf_Q X G (some (.int q.1)) q.2) 107 [(0, .ref (kf_ad G v0)), (2, .int v2), (3, .int v3), (4, .int v4)] [] σ) (v0 : Nat) (v2 : Int32) (v3 : Int32) (v4 : Int32) (k_v0 : kf_kd G v0 = 13) (σ : kf_St) (h : f_X12_busy_107_s rec107 v0 v2 v3 v4 σ = some q) : kf_WA X G 5 (kf_Q X G (some (.int q.1)) q.2) 107 [(0, .ref (kf_ad G v0)), (2, .int v2), (3, .int v3), (4, .int v4)] [] σ := by
  unfold f_X12_busy_107_s at h
  refine wa_iload 3 rfl E d_X12_busy_107 ?_
  refine wa_aload_n 0 rfl E d_X12_busy_109 ?_
  refine wa_getR fl_X12_52 k_v0 rfl E d_X12_busy_110 ?_
  refine wa_aload_n 0 rfl E d_X12_busy_113 ?_
  refine wa_getI fl_X12_233 k_v0 rfl E d_X12_busy_114 ?_
  obtain ⟨g_1, h⟩ := kf_gd h
  refine wa_iald (kf_wtf hty 25 49 k_v0 (by decide) rfl) g_1 E d_X12_busy_117 ?_
  refine wa_icmp_ge E d_X12_busy_118 (fun c_2 => ?_) (fun c_2 => ?_)
  · replace h := kf_ift c_2 h
    refine wa_iload_n 1 rfl E d_X12_busy_146 ?_
    refine wa_if_ne E d_X12_busy_147 (fun c_3 => ?_) (fun c_3 => ?_)
    · replace h := kf_iff c_3 h
      refine wa_aload_n 0 rfl E d_X12_busy_154 ?_
      refine wa_getR fl_X12_134 k_v0 rfl E d_X12_busy_155 ?_
      refine wa_iload_n 2 rfl E d_X12_busy_158 ?_
      obtain ⟨g_4, h⟩ := kf_gd h
      refine wa_iald (kf_wtf hty 59 49 k_v0 (by decide) rfl) g_4 E d_X12_busy_159 ?_
      cases h
      exact wa_iret E d_X12_busy_160
    · replace h := kf_ift c_3 h
      refine wa_iload_n 2 rfl E d_X12_busy_150 ?_
      refine wa_goto E d_X12_busy_151 ?_
      cases h
      exact wa_iret E d_X12_busy_160
  · replace h := kf_iff c_2 h
    refine wa_aload_n 0 rfl E d_X12_busy_121 ?_
    refine wa_getR fl_X12_134 k_v0 rfl E d_X12_busy_122 ?_
    refine wa_iload 3 rfl E d_X12_busy_125 ?_
    obtain ⟨g_5, h⟩ := kf_gd h
    refine wa_iald (kf_wtf hty 59 49 k_v0 (by decide) rfl) g_5 E d_X12_busy_127 ?_
    refine wa_aload_n 0 rfl E d_X12_busy_128 ?_
    refine wa_getR fl_X12_134 k_v0 rfl E d_X12_busy_129 ?_
    refine wa_iload_n 2 rfl E d_X12_busy_132 ?_
    obtain ⟨g_6, h⟩ := kf_gd h
    refine wa_iald (kf_wtf hty 59 49 k_v0 (by decide) rfl) g_6 E d_X12_busy_133 ?_
    refine wa_icmp_le E d_X12_busy_134 (fun c_7 => ?_) (fun c_7 => ?_)
    · replace h := kf_ift c_7 h
      exact b_X12_busy_140 E hty hrec107 v0 v2 v3 v4 k_v0 σ h
    · replace h := kf_iff c_7 h
      refine wa_iload 3 rfl E d_X12_busy_137 ?_
      refine wa_istore_n (lv' := [(3, .int v4), (0, .ref (kf_ad G v0)), (2, .int v2), (4, .int v4)]) rfl (by decide) rfl E d_X12_busy_139 ?_
      refine wa_sub [1, 2, 0, 3] rfl ?_
      exact b_X12_busy_140 E hty hrec107 v0 v2 v4 v4 k_v0 σ h
theorem b_X12_busy_107 {X : kf_X} {G : kf_G} {q : (Int32 × kf_St)} (E : kf_ok X G cX12_busy RX12 5 (some .int) (3)) (hty : kf_wt G) : ∀ (N : Nat) (v0 : Nat) (v2 : Int32) (v3 : Int32) (v4 : Int32) (k_v0 : kf_kd G v0 = 13) (σ : kf_St) (_ : f_X12_busy_107 N v0 v2 v3 v4 σ = some q), kf_WA X G 5 (kf_Q X G (some (.int q.1)) q.2) 107 [(0, .ref (kf_ad G v0)), (2, .int v2), (3, .int v3), (4, .int v4)] [] σ
  | 0, _, _, _, _, _, _, h => by cases h
  | N + 1, v0, v2, v3, v4, k_v0, σ, h => b_X12_busy_107_s _ E hty (b_X12_busy_107 E hty N) v0 v2 v3 v4 k_v0 σ h
def f_X12_busy_55_s (rec55 : Nat → Int32 → Int32 → Int32 → kf_St → Option (Int32 × kf_St)) (v0 : Nat) (v1 : Int32) (v2 : Int32) (v3 : Int32) (σ : kf_St) : Option (Int32 × kf_St) :=
  if kf_ix (σ.1 v0 18) (kf_ln (kf_rf v0 27)) = true then
  if (σ.1 (kf_rf v0 27) (Int32.toNatClampNeg (σ.1 v0 18))) ≤ v3 then
    f_X12_busy_107 kf_F v0 v2 0 1 σ
  else
    if kf_ix ((10 * (σ.1 v0 18)) + v3) (kf_ln (kf_rf v0 28)) = true then
    if kf_ix (σ.1 (kf_rf v0 28) (Int32.toNatClampNeg ((10 * (σ.1 v0 18)) + v3))) (kf_ln (kf_rf v0 59)) = true then
    (f_X12_timesDue v0 v3 v1 σ).bind fun q_5 =>
    if kf_ix (σ.1 (kf_rf v0 28) (Int32.toNatClampNeg ((10 * (σ.1 v0 18)) + v3))) (kf_ln (kf_rf v0 59)) = true then
    kf_lt (kf_wi q_5.2 (kf_rf v0 59) (Int32.toNatClampNeg (σ.1 (kf_rf v0 28) (Int32.toNatClampNeg ((10 * (σ.1 v0 18)) + v3)))) ((σ.1 (kf_rf v0 59) (Int32.toNatClampNeg (σ.1 (kf_rf v0 28) (Int32.toNatClampNeg ((10 * (σ.1 v0 18)) + v3))))) + q_5.1)) fun σ_7 =>
    kf_lt (v3 + 1) fun v3_8 =>
    rec55 v0 v1 v2 v3_8 σ_7
    else none
    else none
    else none
  else none
def f_X12_busy_55 : Nat → Nat → Int32 → Int32 → Int32 → kf_St → Option (Int32 × kf_St)
  | 0, _, _, _, _, _ => none
  | n + 1, v0, v1, v2, v3, σ => f_X12_busy_55_s (f_X12_busy_55 n) v0 v1 v2 v3 σ
set_option maxRecDepth 100000 in
set_option maxHeartbeats 4000000 in
theorem b_X12_busy_55_s {X : kf_X} {G : kf_G} (rec55 : Nat → Int32 → Int32 → Int32 → kf_St → Option (Int32 × kf_St)) {q : (Int32 × kf_St)} (E : kf_ok X G cX12_busy RX12 5 (some .int) (3)) (hty : kf_wt G) (hrec55 : ∀ (v0 : Nat) (v1 : Int32) (v2 : Int32) (v3 : Int32) (k_v0 : kf_kd G v0 = 13) (σ : kf_St), rec55 v0 v1 v2 v3 σ = some q → kf_WA X G 5 (kf_Q X G (some (.int q.1)) q.2) 55 [(0, .ref (kf_ad G v0)), (1, .int v1), (2, .int v2), (3, .int v3)] [] σ) (v0 : Nat) (v1 : Int32) (v2 : Int32) (v3 : Int32) (k_v0 : kf_kd G v0 = 13) (σ : kf_St) (h : f_X12_busy_55_s rec55 v0 v1 v2 v3 σ = some q) : kf_WA X G 5 (kf_Q X G (some (.int q.1)) q.2) 55 [(0, .ref (kf_ad G v0)), (1, .int v1), (2, .int v2), (3, .int v3)] [] σ := by
  unfold f_X12_busy_55_s at h
  refine wa_iload_n 3 rfl E d_X12_busy_55 ?_
  refine wa_aload_n 0 rfl E d_X12_busy_56 ?_
  refine wa_getR fl_X12_58 k_v0 rfl E d_X12_busy_57 ?_
  refine wa_aload_n 0 rfl E d_X12_busy_60 ?_
  refine wa_getI fl_X12_233 k_v0 rfl E d_X12_busy_61 ?_
  obtain ⟨g_1, h⟩ := kf_gd h
  refine wa_iald (kf_wtf hty 27 49 k_v0 (by decide) rfl) g_1 E d_X12_busy_64 ?_
  refine wa_icmp_ge E d_X12_busy_65 (fun c_2 => ?_) (fun c_2 => ?_)
  · replace h := kf_ift c_2 h
    refine wa_iconst 0 ic_0 E d_X12_busy_102 ?_
    refine wa_istore_n (lv' := [(3, .int 0), (0, .ref (kf_ad G v0)), (1, .int v1), (2, .int v2)]) rfl (by decide) rfl E d_X12_busy_103 ?_
    refine wa_iconst 1 ic_1 E d_X12_busy_104 ?_
    refine wa_istore (lv' := [(4, .int 1), (3, .int 0), (0, .ref (kf_ad G v0)), (1, .int v1), (2, .int v2)]) (by decide) rfl E d_X12_busy_105 ?_
    refine wa_sub [2, 4, 1, 0] rfl ?_
    exact b_X12_busy_107 E hty kf_F v0 v2 0 1 k_v0 σ h
  · replace h := kf_iff c_2 h
    refine wa_aload_n 0 rfl E d_X12_busy_68 ?_
    refine wa_getR fl_X12_134 k_v0 rfl E d_X12_busy_69 ?_
    refine wa_aload_n 0 rfl E d_X12_busy_72 ?_
    refine wa_getR fl_X12_61 k_v0 rfl E d_X12_busy_73 ?_
    refine wa_bipush 10 bp_10 E d_X12_busy_76 ?_
    refine wa_aload_n 0 rfl E d_X12_busy_78 ?_
    refine wa_getI fl_X12_233 k_v0 rfl E d_X12_busy_79 ?_
    refine wa_imul E d_X12_busy_82 ?_
    refine wa_iload_n 3 rfl E d_X12_busy_83 ?_
    refine wa_iadd E d_X12_busy_84 ?_
    obtain ⟨g_3, h⟩ := kf_gd h
    refine wa_iald (kf_wtf hty 28 49 k_v0 (by decide) rfl) g_3 E d_X12_busy_85 ?_
    refine wa_dup2 rfl rfl E d_X12_busy_86 ?_
    obtain ⟨g_4, h⟩ := kf_gd h
    refine wa_iald (kf_wtf hty 59 49 k_v0 (by decide) rfl) g_4 E d_X12_busy_87 ?_
    refine wa_aload_n 0 rfl E d_X12_busy_88 ?_
    refine wa_iload_n 3 rfl E d_X12_busy_89 ?_
    refine wa_iload_n 1 rfl E d_X12_busy_90 ?_
    obtain ⟨q_5, hq_5, h⟩ := kf_bd h
    refine wa_callV (st2 := [.int q_5.1, .int (σ.1 (kf_rf v0 59) (Int32.toNatClampNeg (σ.1 (kf_rf v0 28) (Int32.toNatClampNeg ((10 * (σ.1 v0 18)) + v3))))), .int (σ.1 (kf_rf v0 28) (Int32.toNatClampNeg ((10 * (σ.1 v0 18)) + v3))), .ref (kf_ad G (kf_rf v0 59))]) (c_X12_timesDue hty v0 v3 v1 k_v0 σ hq_5) mv_X12_timesDue ml_X12_448 k_v0 rfl (Nat.le_of_ble_eq_true rfl) rfl (Nat.le_of_ble_eq_true rfl) E d_X12_busy_91 rfl ?_
    refine wa_iadd E d_X12_busy_94 ?_
    obtain ⟨g_6, h⟩ := kf_gd h
    obtain ⟨σ_7, eσ_7, h⟩ := kf_lte h
    refine wa_iast (kf_wtf hty 59 49 k_v0 (by decide) rfl) g_6 E d_X12_busy_95 eσ_7 ?_
    obtain ⟨v3_8, ev3_8, h⟩ := kf_lte h
    refine wa_iinc (lv' := [(3, .int v3_8), (0, .ref (kf_ad G v0)), (1, .int v1), (2, .int v2)]) v3_8 3 rfl (kf_inc ic_1 ev3_8) (by decide) rfl E d_X12_busy_96 ?_
    refine wa_goto E d_X12_busy_99 ?_
    refine wa_sub [1, 2, 3, 0] rfl ?_
    exact hrec55 v0 v1 v2 v3_8 k_v0 σ_7 h
theorem b_X12_busy_55 {X : kf_X} {G : kf_G} {q : (Int32 × kf_St)} (E : kf_ok X G cX12_busy RX12 5 (some .int) (3)) (hty : kf_wt G) : ∀ (N : Nat) (v0 : Nat) (v1 : Int32) (v2 : Int32) (v3 : Int32) (k_v0 : kf_kd G v0 = 13) (σ : kf_St) (_ : f_X12_busy_55 N v0 v1 v2 v3 σ = some q), kf_WA X G 5 (kf_Q X G (some (.int q.1)) q.2) 55 [(0, .ref (kf_ad G v0)), (1, .int v1), (2, .int v2), (3, .int v3)] [] σ
  | 0, _, _, _, _, _, _, h => by cases h
  | N + 1, v0, v1, v2, v3, k_v0, σ, h => b_X12_busy_55_s _ E hty (b_X12_busy_55 E hty N) v0 v1 v2 v3 k_v0 σ h
def f_X12_busy_35_s (rec35 : Nat → Int32 → Int32 → Int32 → kf_St → Option (Int32 × kf_St)) (v0 : Nat) (v1 : Int32) (v2 : Int32) (v3 : Int32) (σ : kf_St) : Option (Int32 × kf_St) :=
  if 5 ≤ v3 then
    f_X12_busy_55 kf_F v0 v1 v2 0 σ
  else
    if kf_ix v3 (kf_ln (kf_rf v0 59)) = true then
    kf_lt (kf_wi σ (kf_rf v0 59) (Int32.toNatClampNeg v3) 0) fun σ_3 =>
    kf_lt (v3 + 1) fun v3_4 =>
    rec35 v0 v1 v2 v3_4 σ_3
    else none
def f_X12_busy_35 : Nat → Nat → Int32 → Int32 → Int32 → kf_St → Option (Int32 × kf_St)
  | 0, _, _, _, _, _ => none
  | n + 1, v0, v1, v2, v3, σ => f_X12_busy_35_s (f_X12_busy_35 n) v0 v1 v2 v3 σ
set_option maxRecDepth 100000 in
set_option maxHeartbeats 4000000 in
theorem b_X12_busy_35_s {X : kf_X} {G : kf_G} (rec35 : Nat → Int32 → Int32 → Int32 → kf_St → Option (Int32 × kf_St)) {q : (Int32 × kf_St)} (E : kf_ok X G cX12_busy RX12 5 (some .int) (3)) (hty : kf_wt G) (hrec35 : ∀ (v0 : Nat) (v1 : Int32) (v2 : Int32) (v3 : Int32) (k_v0 : kf_kd G v0 = 13) (σ : kf_St), rec35 v0 v1 v2 v3 σ = some q → kf_WA X G 5 (kf_Q X G (some (.int q.1)) q.2) 35 [(0, .ref (kf_ad G v0)), (1, .int v1), (2, .int v2), (3, .int v3)] [] σ) (v0 : Nat) (v1 : Int32) (v2 : Int32) (v3 : Int32) (k_v0 : kf_kd G v0 = 13) (σ : kf_St) (h : f_X12_busy_35_s rec35 v0 v1 v2 v3 σ = some q) : kf_WA X G 5 (kf_Q X G (some (.int q.1)) q.2) 35 [(0, .ref (kf_ad G v0)), (1, .int v1), (2, .int v2), (3, .int v3)] [] σ := by
  unfold f_X12_busy_35_s at h
  refine wa_iload_n 3 rfl E d_X12_busy_35 ?_
  refine wa_iconst 5 ic_5 E d_X12_busy_36 ?_
  refine wa_icmp_ge E d_X12_busy_37 (fun c_1 => ?_) (fun c_1 => ?_)
  · replace h := kf_ift c_1 h
    refine wa_iconst 0 ic_0 E d_X12_busy_53 ?_
    refine wa_istore_n (lv' := [(3, .int 0), (0, .ref (kf_ad G v0)), (1, .int v1), (2, .int v2)]) rfl (by decide) rfl E d_X12_busy_54 ?_
    refine wa_sub [1, 2, 3, 0] rfl ?_
    exact b_X12_busy_55 E hty kf_F v0 v1 v2 0 k_v0 σ h
  · replace h := kf_iff c_1 h
    refine wa_aload_n 0 rfl E d_X12_busy_40 ?_
    refine wa_getR fl_X12_134 k_v0 rfl E d_X12_busy_41 ?_
    refine wa_iload_n 3 rfl E d_X12_busy_44 ?_
    refine wa_iconst 0 ic_0 E d_X12_busy_45 ?_
    obtain ⟨g_2, h⟩ := kf_gd h
    obtain ⟨σ_3, eσ_3, h⟩ := kf_lte h
    refine wa_iast (kf_wtf hty 59 49 k_v0 (by decide) rfl) g_2 E d_X12_busy_46 eσ_3 ?_
    obtain ⟨v3_4, ev3_4, h⟩ := kf_lte h
    refine wa_iinc (lv' := [(3, .int v3_4), (0, .ref (kf_ad G v0)), (1, .int v1), (2, .int v2)]) v3_4 3 rfl (kf_inc ic_1 ev3_4) (by decide) rfl E d_X12_busy_47 ?_
    refine wa_goto E d_X12_busy_50 ?_
    refine wa_sub [1, 2, 3, 0] rfl ?_
    exact hrec35 v0 v1 v2 v3_4 k_v0 σ_3 h
theorem b_X12_busy_35 {X : kf_X} {G : kf_G} {q : (Int32 × kf_St)} (E : kf_ok X G cX12_busy RX12 5 (some .int) (3)) (hty : kf_wt G) : ∀ (N : Nat) (v0 : Nat) (v1 : Int32) (v2 : Int32) (v3 : Int32) (k_v0 : kf_kd G v0 = 13) (σ : kf_St) (_ : f_X12_busy_35 N v0 v1 v2 v3 σ = some q), kf_WA X G 5 (kf_Q X G (some (.int q.1)) q.2) 35 [(0, .ref (kf_ad G v0)), (1, .int v1), (2, .int v2), (3, .int v3)] [] σ
  | 0, _, _, _, _, _, _, h => by cases h
  | N + 1, v0, v1, v2, v3, k_v0, σ, h => b_X12_busy_35_s _ E hty (b_X12_busy_35 E hty N) v0 v1 v2 v3 k_v0 σ h
def f_X12_busy (v0 : Nat) (v1 : Int32) (v2 : Int32) (σ : kf_St) : Option (Int32 × kf_St) :=
  (f_X12_isSome v1 σ).bind fun q_1 =>
  if q_1.1 = 0 then
    some ((-1), q_1.2)
  else
    (f_X12_in v2 0 1 q_1.2).bind fun q_3 =>
    if q_3.1 = 0 then
      some ((-1), q_3.2)
    else
      if kf_ix (q_3.2.1 v0 18) (kf_ln (kf_rf v0 25)) = true then
      if (q_3.2.1 (kf_rf v0 25) (Int32.toNatClampNeg (q_3.2.1 v0 18))) = 0 then
        some ((-2), q_3.2)
      else
        f_X12_busy_35 kf_F v0 v1 v2 0 q_3.2
      else none
set_option maxRecDepth 100000 in
set_option maxHeartbeats 4000000 in
theorem c_X12_busy {G : kf_G} (hty : kf_wt G) (v0 : Nat) (v1 : Int32) (v2 : Int32) (k_v0 : kf_kd G v0 = 13) (σ : kf_St) {q : (Int32 × kf_St)} (h : f_X12_busy v0 v1 v2 σ = some q) : kf_Ct (3) yX12_busy cX12_busy 5 (some .int) G [.ref (kf_ad G v0), .int v1, .int v2] σ (some (.int q.1)) q.2 := by
  refine kf_Ct.of hty.1 (lv := [(0, .ref (kf_ad G v0)), (1, .int v1), (2, .int v2)]) (by decide +kernel) rfl (Nat.le_of_ble_eq_true rfl) (fun X E => ?_)
  unfold f_X12_busy at h
  refine wa_iload_n 1 rfl E d_X12_busy_0 ?_
  obtain ⟨q_1, hq_1, h⟩ := kf_bd h
  refine wa_callS (st2 := [.int q_1.1]) (c_X12_isSome hty v1 σ hq_1) mt_X12_isSome ml_X12_427 rfl (Nat.le_of_ble_eq_true rfl) rfl (Nat.le_of_ble_eq_true rfl) E d_X12_busy_1 rfl ?_
  refine wa_if_eq E d_X12_busy_4 (fun c_2 => ?_) (fun c_2 => ?_)
  · replace h := kf_ift c_2 h
    refine wa_iconst (-1) ic_m1 E d_X12_busy_16 ?_
    cases h
    exact wa_iret E d_X12_busy_17
  · replace h := kf_iff c_2 h
    refine wa_iload_n 2 rfl E d_X12_busy_7 ?_
    refine wa_iconst 0 ic_0 E d_X12_busy_8 ?_
    refine wa_iconst 1 ic_1 E d_X12_busy_9 ?_
    obtain ⟨q_3, hq_3, h⟩ := kf_bd h
    refine wa_callS (st2 := [.int q_3.1]) (c_X12_in hty v2 0 1 q_1.2 hq_3) mt_X12_in ml_X12_313 rfl (Nat.le_of_ble_eq_true rfl) rfl (Nat.le_of_ble_eq_true rfl) E d_X12_busy_10 rfl ?_
    refine wa_if_ne E d_X12_busy_13 (fun c_4 => ?_) (fun c_4 => ?_)
    · replace h := kf_iff c_4 h
      refine wa_aload_n 0 rfl E d_X12_busy_18 ?_
      refine wa_getR fl_X12_52 k_v0 rfl E d_X12_busy_19 ?_
      refine wa_aload_n 0 rfl E d_X12_busy_22 ?_
      refine wa_getI fl_X12_233 k_v0 rfl E d_X12_busy_23 ?_
      obtain ⟨g_5, h⟩ := kf_gd h
      refine wa_iald (kf_wtf hty 25 49 k_v0 (by decide) rfl) g_5 E d_X12_busy_26 ?_
      refine wa_if_ne E d_X12_busy_27 (fun c_6 => ?_) (fun c_6 => ?_)
      · replace h := kf_iff c_6 h
        refine wa_iconst 0 ic_0 E d_X12_busy_33 ?_
        refine wa_istore_n (lv' := [(3, .int 0), (0, .ref (kf_ad G v0)), (1, .int v1), (2, .int v2)]) rfl (by decide) rfl E d_X12_busy_34 ?_
        refine wa_sub [1, 2, 3, 0] rfl ?_
        exact b_X12_busy_35 E hty kf_F v0 v1 v2 0 k_v0 q_3.2 h
      · replace h := kf_ift c_6 h
        refine wa_bipush (-2) bp_m2 E d_X12_busy_30 ?_
        cases h
        exact wa_iret E d_X12_busy_32
    · replace h := kf_ift c_4 h
      refine wa_iconst (-1) ic_m1 E d_X12_busy_16 ?_
      cases h
      exact wa_iret E d_X12_busy_17
/-! X12_richest -/
theorem d_X12_richest_0 : kf_dq cX12_richest 0 1 1 (.iload_n 1) := ⟨by decide +kernel, rfl⟩
theorem d_X12_richest_1 : kf_dq cX12_richest 1 4 3 (.invokestatic 411) := ⟨by decide +kernel, rfl⟩
theorem d_X12_richest_4 : kf_dj cX12_richest 4 7 16 (.ifCond .eq) := ⟨12, by decide +kernel, rfl, by decide⟩
theorem d_X12_richest_7 : kf_dq cX12_richest 7 8 1 (.iload_n 2) := ⟨by decide +kernel, rfl⟩
theorem d_X12_richest_8 : kf_dq cX12_richest 8 9 1 (.iconst 0) := ⟨by decide +kernel, rfl⟩
theorem d_X12_richest_9 : kf_dq cX12_richest 9 10 1 (.iconst 1) := ⟨by decide +kernel, rfl⟩
theorem d_X12_richest_10 : kf_dq cX12_richest 10 13 3 (.invokestatic 313) := ⟨by decide +kernel, rfl⟩
theorem d_X12_richest_13 : kf_dj cX12_richest 13 16 18 (.ifCond .ne) := ⟨5, by decide +kernel, rfl, by decide⟩
theorem d_X12_richest_16 : kf_dq cX12_richest 16 17 1 (.iconst (-1)) := ⟨by decide +kernel, rfl⟩
theorem d_X12_richest_17 : kf_dq cX12_richest 17 18 1 (.ireturn) := ⟨by decide +kernel, rfl⟩
theorem d_X12_richest_18 : kf_dq cX12_richest 18 19 1 (.aload_n 0) := ⟨by decide +kernel, rfl⟩
theorem d_X12_richest_19 : kf_dq cX12_richest 19 22 3 (.invokevirtual 430) := ⟨by decide +kernel, rfl⟩
theorem d_X12_richest_22 : kf_dq cX12_richest 22 23 1 (.aload_n 0) := ⟨by decide +kernel, rfl⟩
theorem d_X12_richest_23 : kf_dq cX12_richest 23 24 1 (.iload_n 1) := ⟨by decide +kernel, rfl⟩
theorem d_X12_richest_24 : kf_dq cX12_richest 24 27 3 (.invokevirtual 414) := ⟨by decide +kernel, rfl⟩
theorem d_X12_richest_27 : kf_dq cX12_richest 27 29 2 (.bipush (-2)) := ⟨by decide +kernel, rfl⟩
theorem d_X12_richest_29 : kf_dq cX12_richest 29 30 1 (.istore_n 3) := ⟨by decide +kernel, rfl⟩
theorem d_X12_richest_30 : kf_dq cX12_richest 30 31 1 (.iconst 0) := ⟨by decide +kernel, rfl⟩
theorem d_X12_richest_31 : kf_dq cX12_richest 31 33 2 (.istore 4) := ⟨by decide +kernel, rfl⟩
theorem d_X12_richest_33 : kf_dq cX12_richest 33 35 2 (.iload 4) := ⟨by decide +kernel, rfl⟩
theorem d_X12_richest_35 : kf_dq cX12_richest 35 36 1 (.aload_n 0) := ⟨by decide +kernel, rfl⟩
theorem d_X12_richest_36 : kf_dq cX12_richest 36 39 3 (.getfield 46) := ⟨by decide +kernel, rfl⟩
theorem d_X12_richest_39 : kf_dq cX12_richest 39 40 1 (.aload_n 0) := ⟨by decide +kernel, rfl⟩
theorem d_X12_richest_40 : kf_dq cX12_richest 40 43 3 (.getfield 233) := ⟨by decide +kernel, rfl⟩
theorem d_X12_richest_43 : kf_dq cX12_richest 43 44 1 (.iaload) := ⟨by decide +kernel, rfl⟩
theorem d_X12_richest_44 : kf_dj cX12_richest 44 47 82 (.if_icmp .ge) := ⟨38, by decide +kernel, rfl, by decide⟩
theorem d_X12_richest_47 : kf_dq cX12_richest 47 48 1 (.iload_n 3) := ⟨by decide +kernel, rfl⟩
theorem d_X12_richest_48 : kf_dj cX12_richest 48 51 73 (.ifCond .lt) := ⟨25, by decide +kernel, rfl, by decide⟩
theorem d_X12_richest_51 : kf_dq cX12_richest 51 52 1 (.aload_n 0) := ⟨by decide +kernel, rfl⟩
theorem d_X12_richest_52 : kf_dq cX12_richest 52 55 3 (.getfield 122) := ⟨by decide +kernel, rfl⟩
theorem d_X12_richest_55 : kf_dq cX12_richest 55 57 2 (.bipush 42) := ⟨by decide +kernel, rfl⟩
theorem d_X12_richest_57 : kf_dq cX12_richest 57 59 2 (.iload 4) := ⟨by decide +kernel, rfl⟩
theorem d_X12_richest_59 : kf_dq cX12_richest 59 60 1 (.iadd) := ⟨by decide +kernel, rfl⟩
theorem d_X12_richest_60 : kf_dq cX12_richest 60 61 1 (.iaload) := ⟨by decide +kernel, rfl⟩
theorem d_X12_richest_61 : kf_dq cX12_richest 61 62 1 (.aload_n 0) := ⟨by decide +kernel, rfl⟩
theorem d_X12_richest_62 : kf_dq cX12_richest 62 65 3 (.getfield 122) := ⟨by decide +kernel, rfl⟩
theorem d_X12_richest_65 : kf_dq cX12_richest 65 67 2 (.bipush 42) := ⟨by decide +kernel, rfl⟩
theorem d_X12_richest_67 : kf_dq cX12_richest 67 68 1 (.iload_n 3) := ⟨by decide +kernel, rfl⟩
theorem d_X12_richest_68 : kf_dq cX12_richest 68 69 1 (.iadd) := ⟨by decide +kernel, rfl⟩
theorem d_X12_richest_69 : kf_dq cX12_richest 69 70 1 (.iaload) := ⟨by decide +kernel, rfl⟩
theorem d_X12_richest_70 : kf_dj cX12_richest 70 73 76 (.if_icmp .le) := ⟨6, by decide +kernel, rfl, by decide⟩
theorem d_X12_richest_73 : kf_dq cX12_richest 73 75 2 (.iload 4) := ⟨by decide +kernel, rfl⟩
theorem d_X12_richest_75 : kf_dq cX12_richest 75 76 1 (.istore_n 3) := ⟨by decide +kernel, rfl⟩
theorem d_X12_richest_76 : kf_dq cX12_richest 76 79 3 (.iinc 4 1) := ⟨by decide +kernel, rfl⟩
theorem d_X12_richest_79 : kf_dj cX12_richest 79 82 33 .goto := ⟨(-46), by decide +kernel, rfl, by decide⟩
theorem d_X12_richest_82 : kf_dq cX12_richest 82 83 1 (.iload_n 3) := ⟨by decide +kernel, rfl⟩
theorem d_X12_richest_83 : kf_dj cX12_richest 83 86 90 (.ifCond .lt) := ⟨7, by decide +kernel, rfl, by decide⟩
theorem d_X12_richest_86 : kf_dq cX12_richest 86 87 1 (.iload_n 2) := ⟨by decide +kernel, rfl⟩
theorem d_X12_richest_87 : kf_dj cX12_richest 87 90 94 (.ifCond .ne) := ⟨7, by decide +kernel, rfl, by decide⟩
theorem d_X12_richest_90 : kf_dq cX12_richest 90 91 1 (.iload_n 3) := ⟨by decide +kernel, rfl⟩
theorem d_X12_richest_91 : kf_dj cX12_richest 91 94 103 .goto := ⟨12, by decide +kernel, rfl, by decide⟩
theorem d_X12_richest_94 : kf_dq cX12_richest 94 95 1 (.aload_n 0) := ⟨by decide +kernel, rfl⟩
theorem d_X12_richest_95 : kf_dq cX12_richest 95 98 3 (.getfield 122) := ⟨by decide +kernel, rfl⟩
theorem d_X12_richest_98 : kf_dq cX12_richest 98 100 2 (.bipush 42) := ⟨by decide +kernel, rfl⟩
theorem d_X12_richest_100 : kf_dq cX12_richest 100 101 1 (.iload_n 3) := ⟨by decide +kernel, rfl⟩
theorem d_X12_richest_101 : kf_dq cX12_richest 101 102 1 (.iadd) := ⟨by decide +kernel, rfl⟩
theorem d_X12_richest_102 : kf_dq cX12_richest 102 103 1 (.iaload) := ⟨by decide +kernel, rfl⟩
theorem d_X12_richest_103 : kf_dq cX12_richest 103 104 1 (.ireturn) := ⟨by decide +kernel, rfl⟩
def f_X12_richest_76 (rec33 : Nat → Int32 → Int32 → Int32 → kf_St → Option (Int32 × kf_St)) (v0 : Nat) (v2 : Int32) (v3 : Int32) (v4 : Int32) (σ : kf_St) : Option (Int32 × kf_St) :=
  kf_lt (v4 + 1) fun v4_1 =>
  rec33 v0 v2 v3 v4_1 σ
set_option maxRecDepth 100000 in
set_option maxHeartbeats 4000000 in
theorem b_X12_richest_76 {X : kf_X} {G : kf_G} {rec33 : Nat → Int32 → Int32 → Int32 → kf_St → Option (Int32 × kf_St)} {q : (Int32 × kf_St)} (E : kf_ok X G cX12_richest RX12 5 (some .int) (7)) (hty : kf_wt G) (hrec33 : ∀ (v0 : Nat) (v2 : Int32) (v3 : Int32) (v4 : Int32) (k_v0 : kf_kd G v0 = 13) (σ : kf_St), rec33 v0 v2 v3 v4 σ = some q → kf_WA X G 5 (kf_Q X G (some (.int q.1)) q.2) 33 [(0, .ref (kf_ad G v0)), (2, .int v2), (3, .int v3), (4, .int v4)] [] σ) (v0 : Nat) (v2 : Int32) (v3 : Int32) (v4 : Int32) (k_v0 : kf_kd G v0 = 13) (σ : kf_St) (h : f_X12_richest_76 rec33 v0 v2 v3 v4 σ = some q) : kf_WA X G 5 (kf_Q X G (some (.int q.1)) q.2) 76 [(0, .ref (kf_ad G v0)), (2, .int v2), (3, .int v3), (4, .int v4)] [] σ := by
  unfold f_X12_richest_76 at h
  obtain ⟨v4_1, ev4_1, h⟩ := kf_lte h
  refine wa_iinc (lv' := [(4, .int v4_1), (0, .ref (kf_ad G v0)), (2, .int v2), (3, .int v3)]) v4_1 3 rfl (kf_inc ic_1 ev4_1) (by decide) rfl E d_X12_richest_76 ?_
  refine wa_goto E d_X12_richest_79 ?_
  refine wa_sub [1, 2, 3, 0] rfl ?_
  exact hrec33 v0 v2 v3 v4_1 k_v0 σ h
def f_X12_richest_73 (rec33 : Nat → Int32 → Int32 → Int32 → kf_St → Option (Int32 × kf_St)) (v0 : Nat) (v2 : Int32) (v4 : Int32) (σ : kf_St) : Option (Int32 × kf_St) :=
  f_X12_richest_76 rec33 v0 v2 v4 v4 σ
set_option maxRecDepth 100000 in
set_option maxHeartbeats 4000000 in
theorem b_X12_richest_73 {X : kf_X} {G : kf_G} {rec33 : Nat → Int32 → Int32 → Int32 → kf_St → Option (Int32 × kf_St)} {q : (Int32 × kf_St)} (E : kf_ok X G cX12_richest RX12 5 (some .int) (7)) (hty : kf_wt G) (hrec33 : ∀ (v0 : Nat) (v2 : Int32) (v3 : Int32) (v4 : Int32) (k_v0 : kf_kd G v0 = 13) (σ : kf_St), rec33 v0 v2 v3 v4 σ = some q → kf_WA X G 5 (kf_Q X G (some (.int q.1)) q.2) 33 [(0, .ref (kf_ad G v0)), (2, .int v2), (3, .int v3), (4, .int v4)] [] σ) (v0 : Nat) (v2 : Int32) (v4 : Int32) (k_v0 : kf_kd G v0 = 13) (σ : kf_St) (h : f_X12_richest_73 rec33 v0 v2 v4 σ = some q) : kf_WA X G 5 (kf_Q X G (some (.int q.1)) q.2) 73 [(0, .ref (kf_ad G v0)), (2, .int v2), (4, .int v4)] [] σ := by
  unfold f_X12_richest_73 at h
  refine wa_iload 2 rfl E d_X12_richest_73 ?_
  refine wa_istore_n (lv' := [(3, .int v4), (0, .ref (kf_ad G v0)), (2, .int v2), (4, .int v4)]) rfl (by decide) rfl E d_X12_richest_75 ?_
  refine wa_sub [1, 2, 0, 3] rfl ?_
  exact b_X12_richest_76 E hty hrec33 v0 v2 v4 v4 k_v0 σ h
def f_X12_richest_33_s (rec33 : Nat → Int32 → Int32 → Int32 → kf_St → Option (Int32 × kf_St)) (v0 : Nat) (v2 : Int32) (v3 : Int32) (v4 : Int32) (σ : kf_St) : Option (Int32 × kf_St) :=
  if kf_ix (σ.1 v0 18) (kf_ln (kf_rf v0 23)) = true then
  if (σ.1 (kf_rf v0 23) (Int32.toNatClampNeg (σ.1 v0 18))) ≤ v4 then
    if v3 < 0 then
      some (v3, σ)
    else
      if v2 = 0 then
        some (v3, σ)
      else
        if kf_ix (42 + v3) (kf_ln (kf_rf v0 52)) = true then
        some ((σ.1 (kf_rf v0 52) (Int32.toNatClampNeg (42 + v3))), σ)
        else none
  else
    if v3 < 0 then
      f_X12_richest_73 rec33 v0 v2 v4 σ
    else
      if kf_ix (42 + v4) (kf_ln (kf_rf v0 52)) = true then
      if kf_ix (42 + v3) (kf_ln (kf_rf v0 52)) = true then
      if (σ.1 (kf_rf v0 52) (Int32.toNatClampNeg (42 + v4))) ≤ (σ.1 (kf_rf v0 52) (Int32.toNatClampNeg (42 + v3))) then
        f_X12_richest_76 rec33 v0 v2 v3 v4 σ
      else
        f_X12_richest_73 rec33 v0 v2 v4 σ
      else none
      else none
  else none
def f_X12_richest_33 : Nat → Nat → Int32 → Int32 → Int32 → kf_St → Option (Int32 × kf_St)
  | 0, _, _, _, _, _ => none
  | n + 1, v0, v2, v3, v4, σ => f_X12_richest_33_s (f_X12_richest_33 n) v0 v2 v3 v4 σ
set_option maxRecDepth 100000 in
set_option maxHeartbeats 4000000 in
theorem b_X12_richest_33_s {X : kf_X} {G : kf_G} (rec33 : Nat → Int32 → Int32 → Int32 → kf_St → Option (Int32 × kf_St)) {q : (Int32 × kf_St)} (E : kf_ok X G cX12_richest RX12 5 (some .int) (7)) (hty : kf_wt G) (hrec33 : ∀ (v0 : Nat) (v2 : Int32) (v3 : Int32) (v4 : Int32) (k_v0 : kf_kd G v0 = 13) (σ : kf_St), rec33 v0 v2 v3 v4 σ = some q → kf_WA X G 5 (kf_Q X G (some (.int q.1)) q.2) 33 [(0, .ref (kf_ad G v0)), (2, .int v2), (3, .int v3), (4, .int v4)] [] σ) (v0 : Nat) (v2 : Int32) (v3 : Int32) (v4 : Int32) (k_v0 : kf_kd G v0 = 13) (σ : kf_St) (h : f_X12_richest_33_s rec33 v0 v2 v3 v4 σ = some q) : kf_WA X G 5 (kf_Q X G (some (.int q.1)) q.2) 33 [(0, .ref (kf_ad G v0)), (2, .int v2), (3, .int v3), (4, .int v4)] [] σ := by
  unfold f_X12_richest_33_s at h
  refine wa_iload 3 rfl E d_X12_richest_33 ?_
  refine wa_aload_n 0 rfl E d_X12_richest_35 ?_
  refine wa_getR fl_X12_46 k_v0 rfl E d_X12_richest_36 ?_
  refine wa_aload_n 0 rfl E d_X12_richest_39 ?_
  refine wa_getI fl_X12_233 k_v0 rfl E d_X12_richest_40 ?_
  obtain ⟨g_1, h⟩ := kf_gd h
  refine wa_iald (kf_wtf hty 23 49 k_v0 (by decide) rfl) g_1 E d_X12_richest_43 ?_
  refine wa_icmp_ge E d_X12_richest_44 (fun c_2 => ?_) (fun c_2 => ?_)
  · replace h := kf_ift c_2 h
    refine wa_iload_n 2 rfl E d_X12_richest_82 ?_
    refine wa_if_lt E d_X12_richest_83 (fun c_3 => ?_) (fun c_3 => ?_)
    · replace h := kf_ift c_3 h
      refine wa_iload_n 2 rfl E d_X12_richest_90 ?_
      refine wa_goto E d_X12_richest_91 ?_
      cases h
      exact wa_iret E d_X12_richest_103
    · replace h := kf_iff c_3 h
      refine wa_iload_n 1 rfl E d_X12_richest_86 ?_
      refine wa_if_ne E d_X12_richest_87 (fun c_4 => ?_) (fun c_4 => ?_)
      · replace h := kf_iff c_4 h
        refine wa_aload_n 0 rfl E d_X12_richest_94 ?_
        refine wa_getR fl_X12_122 k_v0 rfl E d_X12_richest_95 ?_
        refine wa_bipush 42 bp_42 E d_X12_richest_98 ?_
        refine wa_iload_n 2 rfl E d_X12_richest_100 ?_
        refine wa_iadd E d_X12_richest_101 ?_
        obtain ⟨g_5, h⟩ := kf_gd h
        refine wa_iald (kf_wtf hty 52 49 k_v0 (by decide) rfl) g_5 E d_X12_richest_102 ?_
        cases h
        exact wa_iret E d_X12_richest_103
      · replace h := kf_ift c_4 h
        refine wa_iload_n 2 rfl E d_X12_richest_90 ?_
        refine wa_goto E d_X12_richest_91 ?_
        cases h
        exact wa_iret E d_X12_richest_103
  · replace h := kf_iff c_2 h
    refine wa_iload_n 2 rfl E d_X12_richest_47 ?_
    refine wa_if_lt E d_X12_richest_48 (fun c_6 => ?_) (fun c_6 => ?_)
    · replace h := kf_ift c_6 h
      refine wa_sub [0, 1, 3] rfl ?_
      exact b_X12_richest_73 E hty hrec33 v0 v2 v4 k_v0 σ h
    · replace h := kf_iff c_6 h
      refine wa_aload_n 0 rfl E d_X12_richest_51 ?_
      refine wa_getR fl_X12_122 k_v0 rfl E d_X12_richest_52 ?_
      refine wa_bipush 42 bp_42 E d_X12_richest_55 ?_
      refine wa_iload 3 rfl E d_X12_richest_57 ?_
      refine wa_iadd E d_X12_richest_59 ?_
      obtain ⟨g_7, h⟩ := kf_gd h
      refine wa_iald (kf_wtf hty 52 49 k_v0 (by decide) rfl) g_7 E d_X12_richest_60 ?_
      refine wa_aload_n 0 rfl E d_X12_richest_61 ?_
      refine wa_getR fl_X12_122 k_v0 rfl E d_X12_richest_62 ?_
      refine wa_bipush 42 bp_42 E d_X12_richest_65 ?_
      refine wa_iload_n 2 rfl E d_X12_richest_67 ?_
      refine wa_iadd E d_X12_richest_68 ?_
      obtain ⟨g_8, h⟩ := kf_gd h
      refine wa_iald (kf_wtf hty 52 49 k_v0 (by decide) rfl) g_8 E d_X12_richest_69 ?_
      refine wa_icmp_le E d_X12_richest_70 (fun c_9 => ?_) (fun c_9 => ?_)
      · replace h := kf_ift c_9 h
        exact b_X12_richest_76 E hty hrec33 v0 v2 v3 v4 k_v0 σ h
      · replace h := kf_iff c_9 h
        refine wa_sub [0, 1, 3] rfl ?_
        exact b_X12_richest_73 E hty hrec33 v0 v2 v4 k_v0 σ h
theorem b_X12_richest_33 {X : kf_X} {G : kf_G} {q : (Int32 × kf_St)} (E : kf_ok X G cX12_richest RX12 5 (some .int) (7)) (hty : kf_wt G) : ∀ (N : Nat) (v0 : Nat) (v2 : Int32) (v3 : Int32) (v4 : Int32) (k_v0 : kf_kd G v0 = 13) (σ : kf_St) (_ : f_X12_richest_33 N v0 v2 v3 v4 σ = some q), kf_WA X G 5 (kf_Q X G (some (.int q.1)) q.2) 33 [(0, .ref (kf_ad G v0)), (2, .int v2), (3, .int v3), (4, .int v4)] [] σ
  | 0, _, _, _, _, _, _, h => by cases h
  | N + 1, v0, v2, v3, v4, k_v0, σ, h => b_X12_richest_33_s _ E hty (b_X12_richest_33 E hty N) v0 v2 v3 v4 k_v0 σ h
def f_X12_richest (v0 : Nat) (v1 : Int32) (v2 : Int32) (σ : kf_St) : Option (Int32 × kf_St) :=
  (f_X12_isLong v1 σ).bind fun q_1 =>
  if q_1.1 = 0 then
    some ((-1), q_1.2)
  else
    (f_X12_in v2 0 1 q_1.2).bind fun q_3 =>
    if q_3.1 = 0 then
      some ((-1), q_3.2)
    else
      (f_X12_copiesStill v0 q_3.2).bind fun q_5 =>
      (f_X12_goes v0 v1 q_5).bind fun q_6 =>
      f_X12_richest_33 kf_F v0 v2 (-2) 0 q_6
set_option maxRecDepth 100000 in
set_option maxHeartbeats 4000000 in
theorem c_X12_richest {G : kf_G} (hty : kf_wt G) (v0 : Nat) (v1 : Int32) (v2 : Int32) (k_v0 : kf_kd G v0 = 13) (σ : kf_St) {q : (Int32 × kf_St)} (h : f_X12_richest v0 v1 v2 σ = some q) : kf_Ct (7) yX12_richest cX12_richest 5 (some .int) G [.ref (kf_ad G v0), .int v1, .int v2] σ (some (.int q.1)) q.2 := by
  refine kf_Ct.of hty.1 (lv := [(0, .ref (kf_ad G v0)), (1, .int v1), (2, .int v2)]) (by decide +kernel) rfl (Nat.le_of_ble_eq_true rfl) (fun X E => ?_)
  unfold f_X12_richest at h
  refine wa_iload_n 1 rfl E d_X12_richest_0 ?_
  obtain ⟨q_1, hq_1, h⟩ := kf_bd h
  refine wa_callS (st2 := [.int q_1.1]) (c_X12_isLong hty v1 σ hq_1) mt_X12_isLong ml_X12_411 rfl (Nat.le_of_ble_eq_true rfl) rfl (Nat.le_of_ble_eq_true rfl) E d_X12_richest_1 rfl ?_
  refine wa_if_eq E d_X12_richest_4 (fun c_2 => ?_) (fun c_2 => ?_)
  · replace h := kf_ift c_2 h
    refine wa_iconst (-1) ic_m1 E d_X12_richest_16 ?_
    cases h
    exact wa_iret E d_X12_richest_17
  · replace h := kf_iff c_2 h
    refine wa_iload_n 2 rfl E d_X12_richest_7 ?_
    refine wa_iconst 0 ic_0 E d_X12_richest_8 ?_
    refine wa_iconst 1 ic_1 E d_X12_richest_9 ?_
    obtain ⟨q_3, hq_3, h⟩ := kf_bd h
    refine wa_callS (st2 := [.int q_3.1]) (c_X12_in hty v2 0 1 q_1.2 hq_3) mt_X12_in ml_X12_313 rfl (Nat.le_of_ble_eq_true rfl) rfl (Nat.le_of_ble_eq_true rfl) E d_X12_richest_10 rfl ?_
    refine wa_if_ne E d_X12_richest_13 (fun c_4 => ?_) (fun c_4 => ?_)
    · replace h := kf_iff c_4 h
      refine wa_aload_n 0 rfl E d_X12_richest_18 ?_
      obtain ⟨q_5, hq_5, h⟩ := kf_bd h
      refine wa_callV (st2 := []) (c_X12_copiesStill hty v0 k_v0 q_3.2 hq_5) mv_X12_copiesStill ml_X12_430 k_v0 rfl (Nat.le_of_ble_eq_true rfl) rfl (Nat.le_of_ble_eq_true rfl) E d_X12_richest_19 rfl ?_
      refine wa_aload_n 0 rfl E d_X12_richest_22 ?_
      refine wa_iload_n 1 rfl E d_X12_richest_23 ?_
      obtain ⟨q_6, hq_6, h⟩ := kf_bd h
      refine wa_callV (st2 := []) (c_X12_goes hty v0 v1 k_v0 q_5 hq_6) mv_X12_goes ml_X12_414 k_v0 rfl (Nat.le_of_ble_eq_true rfl) rfl (Nat.le_of_ble_eq_true rfl) E d_X12_richest_24 rfl ?_
      refine wa_bipush (-2) bp_m2 E d_X12_richest_27 ?_
      refine wa_istore_n (lv' := [(3, .int (-2)), (0, .ref (kf_ad G v0)), (1, .int v1), (2, .int v2)]) rfl (by decide) rfl E d_X12_richest_29 ?_
      refine wa_iconst 0 ic_0 E d_X12_richest_30 ?_
      refine wa_istore (lv' := [(4, .int 0), (3, .int (-2)), (0, .ref (kf_ad G v0)), (1, .int v1), (2, .int v2)]) (by decide) rfl E d_X12_richest_31 ?_
      refine wa_sub [2, 4, 1, 0] rfl ?_
      exact b_X12_richest_33 E hty kf_F v0 v2 (-2) 0 k_v0 q_6 h
    · replace h := kf_ift c_4 h
      refine wa_iconst (-1) ic_m1 E d_X12_richest_16 ?_
      cases h
      exact wa_iret E d_X12_richest_17
