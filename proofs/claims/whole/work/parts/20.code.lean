/-! X12_flat -/
theorem d_X12_flat_0 : kf_dq cX12_flat 0 1 1 (.iload_n 1) := ⟨by decide +kernel, rfl⟩
theorem d_X12_flat_1 : kf_dq cX12_flat 1 2 1 (.iconst 0) := ⟨by decide +kernel, rfl⟩
theorem d_X12_flat_2 : kf_dq cX12_flat 2 3 1 (.iconst 1) := ⟨by decide +kernel, rfl⟩
theorem d_X12_flat_3 : kf_dq cX12_flat 3 6 3 (.invokestatic 313) := ⟨by decide +kernel, rfl⟩
theorem d_X12_flat_6 : kf_dj cX12_flat 6 9 11 (.ifCond .ne) := ⟨5, by decide +kernel, rfl, by decide⟩
theorem d_X12_flat_9 : kf_dq cX12_flat 9 10 1 (.iconst (-1)) := ⟨by decide +kernel, rfl⟩
theorem d_X12_flat_10 : kf_dq cX12_flat 10 11 1 (.ireturn) := ⟨by decide +kernel, rfl⟩
theorem d_X12_flat_11 : kf_dq cX12_flat 11 12 1 (.aload_n 0) := ⟨by decide +kernel, rfl⟩
theorem d_X12_flat_12 : kf_dq cX12_flat 12 15 3 (.invokevirtual 323) := ⟨by decide +kernel, rfl⟩
theorem d_X12_flat_15 : kf_dq cX12_flat 15 17 2 (.bipush (-2)) := ⟨by decide +kernel, rfl⟩
theorem d_X12_flat_17 : kf_dq cX12_flat 17 18 1 (.istore_n 2) := ⟨by decide +kernel, rfl⟩
theorem d_X12_flat_18 : kf_dq cX12_flat 18 19 1 (.iconst 0) := ⟨by decide +kernel, rfl⟩
theorem d_X12_flat_19 : kf_dq cX12_flat 19 20 1 (.istore_n 3) := ⟨by decide +kernel, rfl⟩
theorem d_X12_flat_20 : kf_dq cX12_flat 20 21 1 (.iload_n 3) := ⟨by decide +kernel, rfl⟩
theorem d_X12_flat_21 : kf_dq cX12_flat 21 22 1 (.aload_n 0) := ⟨by decide +kernel, rfl⟩
theorem d_X12_flat_22 : kf_dq cX12_flat 22 25 3 (.getfield 46) := ⟨by decide +kernel, rfl⟩
theorem d_X12_flat_25 : kf_dq cX12_flat 25 26 1 (.aload_n 0) := ⟨by decide +kernel, rfl⟩
theorem d_X12_flat_26 : kf_dq cX12_flat 26 29 3 (.getfield 233) := ⟨by decide +kernel, rfl⟩
theorem d_X12_flat_29 : kf_dq cX12_flat 29 30 1 (.iaload) := ⟨by decide +kernel, rfl⟩
theorem d_X12_flat_30 : kf_dj cX12_flat 30 33 58 (.if_icmp .ge) := ⟨28, by decide +kernel, rfl, by decide⟩
theorem d_X12_flat_33 : kf_dq cX12_flat 33 34 1 (.iload_n 2) := ⟨by decide +kernel, rfl⟩
theorem d_X12_flat_34 : kf_dj cX12_flat 34 37 50 (.ifCond .lt) := ⟨16, by decide +kernel, rfl, by decide⟩
theorem d_X12_flat_37 : kf_dq cX12_flat 37 38 1 (.aload_n 0) := ⟨by decide +kernel, rfl⟩
theorem d_X12_flat_38 : kf_dq cX12_flat 38 39 1 (.iload_n 3) := ⟨by decide +kernel, rfl⟩
theorem d_X12_flat_39 : kf_dq cX12_flat 39 42 3 (.invokevirtual 357) := ⟨by decide +kernel, rfl⟩
theorem d_X12_flat_42 : kf_dq cX12_flat 42 43 1 (.aload_n 0) := ⟨by decide +kernel, rfl⟩
theorem d_X12_flat_43 : kf_dq cX12_flat 43 44 1 (.iload_n 2) := ⟨by decide +kernel, rfl⟩
theorem d_X12_flat_44 : kf_dq cX12_flat 44 47 3 (.invokevirtual 357) := ⟨by decide +kernel, rfl⟩
theorem d_X12_flat_47 : kf_dj cX12_flat 47 50 52 (.if_icmp .ge) := ⟨5, by decide +kernel, rfl, by decide⟩
theorem d_X12_flat_50 : kf_dq cX12_flat 50 51 1 (.iload_n 3) := ⟨by decide +kernel, rfl⟩
theorem d_X12_flat_51 : kf_dq cX12_flat 51 52 1 (.istore_n 2) := ⟨by decide +kernel, rfl⟩
theorem d_X12_flat_52 : kf_dq cX12_flat 52 55 3 (.iinc 3 1) := ⟨by decide +kernel, rfl⟩
theorem d_X12_flat_55 : kf_dj cX12_flat 55 58 20 .goto := ⟨(-35), by decide +kernel, rfl, by decide⟩
theorem d_X12_flat_58 : kf_dq cX12_flat 58 59 1 (.iload_n 2) := ⟨by decide +kernel, rfl⟩
theorem d_X12_flat_59 : kf_dj cX12_flat 59 62 66 (.ifCond .lt) := ⟨7, by decide +kernel, rfl, by decide⟩
theorem d_X12_flat_62 : kf_dq cX12_flat 62 63 1 (.iload_n 1) := ⟨by decide +kernel, rfl⟩
theorem d_X12_flat_63 : kf_dj cX12_flat 63 66 70 (.ifCond .ne) := ⟨7, by decide +kernel, rfl, by decide⟩
theorem d_X12_flat_66 : kf_dq cX12_flat 66 67 1 (.iload_n 2) := ⟨by decide +kernel, rfl⟩
theorem d_X12_flat_67 : kf_dj cX12_flat 67 70 75 .goto := ⟨8, by decide +kernel, rfl, by decide⟩
theorem d_X12_flat_70 : kf_dq cX12_flat 70 71 1 (.aload_n 0) := ⟨by decide +kernel, rfl⟩
theorem d_X12_flat_71 : kf_dq cX12_flat 71 72 1 (.iload_n 2) := ⟨by decide +kernel, rfl⟩
theorem d_X12_flat_72 : kf_dq cX12_flat 72 75 3 (.invokevirtual 357) := ⟨by decide +kernel, rfl⟩
theorem d_X12_flat_75 : kf_dq cX12_flat 75 76 1 (.ireturn) := ⟨by decide +kernel, rfl⟩
def f_X12_flat_52 (rec20 : Nat → Int32 → Int32 → Int32 → kf_St → Option (Int32 × kf_St)) (v0 : Nat) (v1 : Int32) (v2 : Int32) (v3 : Int32) (σ : kf_St) : Option (Int32 × kf_St) :=
  kf_lt (v3 + 1) fun v3_1 =>
  rec20 v0 v1 v2 v3_1 σ
set_option maxRecDepth 100000 in
set_option maxHeartbeats 4000000 in
theorem b_X12_flat_52 {X : kf_X} {G : kf_G} {rec20 : Nat → Int32 → Int32 → Int32 → kf_St → Option (Int32 × kf_St)} {q : (Int32 × kf_St)} (E : kf_ok X G cX12_flat RX12 4 (some .int) (3)) (hty : kf_wt G) (hrec20 : ∀ (v0 : Nat) (v1 : Int32) (v2 : Int32) (v3 : Int32) (k_v0 : kf_kd G v0 = 13) (σ : kf_St), rec20 v0 v1 v2 v3 σ = some q → kf_WA X G 4 (kf_Q X G (some (.int q.1)) q.2) 20 [(0, .ref (kf_ad G v0)), (1, .int v1), (2, .int v2), (3, .int v3)] [] σ) (v0 : Nat) (v1 : Int32) (v2 : Int32) (v3 : Int32) (k_v0 : kf_kd G v0 = 13) (σ : kf_St) (h : f_X12_flat_52 rec20 v0 v1 v2 v3 σ = some q) : kf_WA X G 4 (kf_Q X G (some (.int q.1)) q.2) 52 [(0, .ref (kf_ad G v0)), (1, .int v1), (2, .int v2), (3, .int v3)] [] σ := by
  unfold f_X12_flat_52 at h
  obtain ⟨v3_1, ev3_1, h⟩ := kf_lte h
  refine wa_iinc (lv' := [(3, .int v3_1), (0, .ref (kf_ad G v0)), (1, .int v1), (2, .int v2)]) v3_1 3 rfl (kf_inc ic_1 ev3_1) (by decide) rfl E d_X12_flat_52 ?_
  refine wa_goto E d_X12_flat_55 ?_
  refine wa_sub [1, 2, 3, 0] rfl ?_
  exact hrec20 v0 v1 v2 v3_1 k_v0 σ h
def f_X12_flat_50 (rec20 : Nat → Int32 → Int32 → Int32 → kf_St → Option (Int32 × kf_St)) (v0 : Nat) (v1 : Int32) (v3 : Int32) (σ : kf_St) : Option (Int32 × kf_St) :=
  f_X12_flat_52 rec20 v0 v1 v3 v3 σ
set_option maxRecDepth 100000 in
set_option maxHeartbeats 4000000 in
theorem b_X12_flat_50 {X : kf_X} {G : kf_G} {rec20 : Nat → Int32 → Int32 → Int32 → kf_St → Option (Int32 × kf_St)} {q : (Int32 × kf_St)} (E : kf_ok X G cX12_flat RX12 4 (some .int) (3)) (hty : kf_wt G) (hrec20 : ∀ (v0 : Nat) (v1 : Int32) (v2 : Int32) (v3 : Int32) (k_v0 : kf_kd G v0 = 13) (σ : kf_St), rec20 v0 v1 v2 v3 σ = some q → kf_WA X G 4 (kf_Q X G (some (.int q.1)) q.2) 20 [(0, .ref (kf_ad G v0)), (1, .int v1), (2, .int v2), (3, .int v3)] [] σ) (v0 : Nat) (v1 : Int32) (v3 : Int32) (k_v0 : kf_kd G v0 = 13) (σ : kf_St) (h : f_X12_flat_50 rec20 v0 v1 v3 σ = some q) : kf_WA X G 4 (kf_Q X G (some (.int q.1)) q.2) 50 [(0, .ref (kf_ad G v0)), (1, .int v1), (3, .int v3)] [] σ := by
  unfold f_X12_flat_50 at h
  refine wa_iload_n 2 rfl E d_X12_flat_50 ?_
  refine wa_istore_n (lv' := [(2, .int v3), (0, .ref (kf_ad G v0)), (1, .int v1), (3, .int v3)]) rfl (by decide) rfl E d_X12_flat_51 ?_
  refine wa_sub [1, 2, 0, 3] rfl ?_
  exact b_X12_flat_52 E hty hrec20 v0 v1 v3 v3 k_v0 σ h
def f_X12_flat_20_s (rec20 : Nat → Int32 → Int32 → Int32 → kf_St → Option (Int32 × kf_St)) (v0 : Nat) (v1 : Int32) (v2 : Int32) (v3 : Int32) (σ : kf_St) : Option (Int32 × kf_St) :=
  if kf_ix (σ.1 v0 18) (kf_ln (kf_rf v0 23)) = true then
  if (σ.1 (kf_rf v0 23) (Int32.toNatClampNeg (σ.1 v0 18))) ≤ v3 then
    if v2 < 0 then
      some (v2, σ)
    else
      if v1 = 0 then
        some (v2, σ)
      else
        (f_X12_unlikeFirst v0 v2 σ).bind fun q_5 =>
        some (q_5.1, q_5.2)
  else
    if v2 < 0 then
      f_X12_flat_50 rec20 v0 v1 v3 σ
    else
      (f_X12_unlikeFirst v0 v3 σ).bind fun q_7 =>
      (f_X12_unlikeFirst v0 v2 q_7.2).bind fun q_8 =>
      if q_8.1 ≤ q_7.1 then
        f_X12_flat_52 rec20 v0 v1 v2 v3 q_8.2
      else
        f_X12_flat_50 rec20 v0 v1 v3 q_8.2
  else none
def f_X12_flat_20 : Nat → Nat → Int32 → Int32 → Int32 → kf_St → Option (Int32 × kf_St)
  | 0, _, _, _, _, _ => none
  | n + 1, v0, v1, v2, v3, σ => f_X12_flat_20_s (f_X12_flat_20 n) v0 v1 v2 v3 σ
set_option maxRecDepth 100000 in
set_option maxHeartbeats 4000000 in
theorem b_X12_flat_20_s {X : kf_X} {G : kf_G} (rec20 : Nat → Int32 → Int32 → Int32 → kf_St → Option (Int32 × kf_St)) {q : (Int32 × kf_St)} (E : kf_ok X G cX12_flat RX12 4 (some .int) (3)) (hty : kf_wt G) (hrec20 : ∀ (v0 : Nat) (v1 : Int32) (v2 : Int32) (v3 : Int32) (k_v0 : kf_kd G v0 = 13) (σ : kf_St), rec20 v0 v1 v2 v3 σ = some q → kf_WA X G 4 (kf_Q X G (some (.int q.1)) q.2) 20 [(0, .ref (kf_ad G v0)), (1, .int v1), (2, .int v2), (3, .int v3)] [] σ) (v0 : Nat) (v1 : Int32) (v2 : Int32) (v3 : Int32) (k_v0 : kf_kd G v0 = 13) (σ : kf_St) (h : f_X12_flat_20_s rec20 v0 v1 v2 v3 σ = some q) : kf_WA X G 4 (kf_Q X G (some (.int q.1)) q.2) 20 [(0, .ref (kf_ad G v0)), (1, .int v1), (2, .int v2), (3, .int v3)] [] σ := by
  unfold f_X12_flat_20_s at h
  refine wa_iload_n 3 rfl E d_X12_flat_20 ?_
  refine wa_aload_n 0 rfl E d_X12_flat_21 ?_
  refine wa_getR fl_X12_46 k_v0 rfl E d_X12_flat_22 ?_
  refine wa_aload_n 0 rfl E d_X12_flat_25 ?_
  refine wa_getI fl_X12_233 k_v0 rfl E d_X12_flat_26 ?_
  obtain ⟨g_1, h⟩ := kf_gd h
  refine wa_iald (kf_wtf hty 23 49 k_v0 (by decide) rfl) g_1 E d_X12_flat_29 ?_
  refine wa_icmp_ge E d_X12_flat_30 (fun c_2 => ?_) (fun c_2 => ?_)
  · replace h := kf_ift c_2 h
    refine wa_iload_n 2 rfl E d_X12_flat_58 ?_
    refine wa_if_lt E d_X12_flat_59 (fun c_3 => ?_) (fun c_3 => ?_)
    · replace h := kf_ift c_3 h
      refine wa_iload_n 2 rfl E d_X12_flat_66 ?_
      refine wa_goto E d_X12_flat_67 ?_
      cases h
      exact wa_iret E d_X12_flat_75
    · replace h := kf_iff c_3 h
      refine wa_iload_n 1 rfl E d_X12_flat_62 ?_
      refine wa_if_ne E d_X12_flat_63 (fun c_4 => ?_) (fun c_4 => ?_)
      · replace h := kf_iff c_4 h
        refine wa_aload_n 0 rfl E d_X12_flat_70 ?_
        refine wa_iload_n 2 rfl E d_X12_flat_71 ?_
        obtain ⟨q_5, hq_5, h⟩ := kf_bd h
        refine wa_callV (st2 := [.int q_5.1]) (c_X12_unlikeFirst hty v0 v2 k_v0 σ hq_5) mv_X12_unlikeFirst ml_X12_357 k_v0 rfl (Nat.le_of_ble_eq_true rfl) rfl (Nat.le_of_ble_eq_true rfl) E d_X12_flat_72 rfl ?_
        cases h
        exact wa_iret E d_X12_flat_75
      · replace h := kf_ift c_4 h
        refine wa_iload_n 2 rfl E d_X12_flat_66 ?_
        refine wa_goto E d_X12_flat_67 ?_
        cases h
        exact wa_iret E d_X12_flat_75
  · replace h := kf_iff c_2 h
    refine wa_iload_n 2 rfl E d_X12_flat_33 ?_
    refine wa_if_lt E d_X12_flat_34 (fun c_6 => ?_) (fun c_6 => ?_)
    · replace h := kf_ift c_6 h
      refine wa_sub [0, 1, 3] rfl ?_
      exact b_X12_flat_50 E hty hrec20 v0 v1 v3 k_v0 σ h
    · replace h := kf_iff c_6 h
      refine wa_aload_n 0 rfl E d_X12_flat_37 ?_
      refine wa_iload_n 3 rfl E d_X12_flat_38 ?_
      obtain ⟨q_7, hq_7, h⟩ := kf_bd h
      refine wa_callV (st2 := [.int q_7.1]) (c_X12_unlikeFirst hty v0 v3 k_v0 σ hq_7) mv_X12_unlikeFirst ml_X12_357 k_v0 rfl (Nat.le_of_ble_eq_true rfl) rfl (Nat.le_of_ble_eq_true rfl) E d_X12_flat_39 rfl ?_
      refine wa_aload_n 0 rfl E d_X12_flat_42 ?_
      refine wa_iload_n 2 rfl E d_X12_flat_43 ?_
      obtain ⟨q_8, hq_8, h⟩ := kf_bd h
      refine wa_callV (st2 := [.int q_8.1, .int q_7.1]) (c_X12_unlikeFirst hty v0 v2 k_v0 q_7.2 hq_8) mv_X12_unlikeFirst ml_X12_357 k_v0 rfl (Nat.le_of_ble_eq_true rfl) rfl (Nat.le_of_ble_eq_true rfl) E d_X12_flat_44 rfl ?_
      refine wa_icmp_ge E d_X12_flat_47 (fun c_9 => ?_) (fun c_9 => ?_)
      · replace h := kf_ift c_9 h
        exact b_X12_flat_52 E hty hrec20 v0 v1 v2 v3 k_v0 q_8.2 h
      · replace h := kf_iff c_9 h
        refine wa_sub [0, 1, 3] rfl ?_
        exact b_X12_flat_50 E hty hrec20 v0 v1 v3 k_v0 q_8.2 h
theorem b_X12_flat_20 {X : kf_X} {G : kf_G} {q : (Int32 × kf_St)} (E : kf_ok X G cX12_flat RX12 4 (some .int) (3)) (hty : kf_wt G) : ∀ (N : Nat) (v0 : Nat) (v1 : Int32) (v2 : Int32) (v3 : Int32) (k_v0 : kf_kd G v0 = 13) (σ : kf_St) (_ : f_X12_flat_20 N v0 v1 v2 v3 σ = some q), kf_WA X G 4 (kf_Q X G (some (.int q.1)) q.2) 20 [(0, .ref (kf_ad G v0)), (1, .int v1), (2, .int v2), (3, .int v3)] [] σ
  | 0, _, _, _, _, _, _, h => by cases h
  | N + 1, v0, v1, v2, v3, k_v0, σ, h => b_X12_flat_20_s _ E hty (b_X12_flat_20 E hty N) v0 v1 v2 v3 k_v0 σ h
def f_X12_flat (v0 : Nat) (v1 : Int32) (σ : kf_St) : Option (Int32 × kf_St) :=
  (f_X12_in v1 0 1 σ).bind fun q_1 =>
  if q_1.1 = 0 then
    some ((-1), q_1.2)
  else
    (f_X12_copies v0 q_1.2).bind fun q_3 =>
    f_X12_flat_20 kf_F v0 v1 (-2) 0 q_3
set_option maxRecDepth 100000 in
set_option maxHeartbeats 4000000 in
theorem c_X12_flat {G : kf_G} (hty : kf_wt G) (v0 : Nat) (v1 : Int32) (k_v0 : kf_kd G v0 = 13) (σ : kf_St) {q : (Int32 × kf_St)} (h : f_X12_flat v0 v1 σ = some q) : kf_Ct (3) yX12_flat cX12_flat 4 (some .int) G [.ref (kf_ad G v0), .int v1] σ (some (.int q.1)) q.2 := by
  refine kf_Ct.of hty.1 (lv := [(0, .ref (kf_ad G v0)), (1, .int v1)]) (by decide +kernel) rfl (Nat.le_of_ble_eq_true rfl) (fun X E => ?_)
  unfold f_X12_flat at h
  refine wa_iload_n 1 rfl E d_X12_flat_0 ?_
  refine wa_iconst 0 ic_0 E d_X12_flat_1 ?_
  refine wa_iconst 1 ic_1 E d_X12_flat_2 ?_
  obtain ⟨q_1, hq_1, h⟩ := kf_bd h
  refine wa_callS (st2 := [.int q_1.1]) (c_X12_in hty v1 0 1 σ hq_1) mt_X12_in ml_X12_313 rfl (Nat.le_of_ble_eq_true rfl) rfl (Nat.le_of_ble_eq_true rfl) E d_X12_flat_3 rfl ?_
  refine wa_if_ne E d_X12_flat_6 (fun c_2 => ?_) (fun c_2 => ?_)
  · replace h := kf_iff c_2 h
    refine wa_aload_n 0 rfl E d_X12_flat_11 ?_
    obtain ⟨q_3, hq_3, h⟩ := kf_bd h
    refine wa_callV (st2 := []) (c_X12_copies hty v0 k_v0 q_1.2 hq_3) mv_X12_copies ml_X12_323 k_v0 rfl (Nat.le_of_ble_eq_true rfl) rfl (Nat.le_of_ble_eq_true rfl) E d_X12_flat_12 rfl ?_
    refine wa_bipush (-2) bp_m2 E d_X12_flat_15 ?_
    refine wa_istore_n (lv' := [(2, .int (-2)), (0, .ref (kf_ad G v0)), (1, .int v1)]) rfl (by decide) rfl E d_X12_flat_17 ?_
    refine wa_iconst 0 ic_0 E d_X12_flat_18 ?_
    refine wa_istore_n (lv' := [(3, .int 0), (2, .int (-2)), (0, .ref (kf_ad G v0)), (1, .int v1)]) rfl (by decide) rfl E d_X12_flat_19 ?_
    refine wa_sub [2, 3, 1, 0] rfl ?_
    exact b_X12_flat_20 E hty kf_F v0 v1 (-2) 0 k_v0 q_3 h
  · replace h := kf_ift c_2 h
    refine wa_iconst (-1) ic_m1 E d_X12_flat_9 ?_
    cases h
    exact wa_iret E d_X12_flat_10
/-! X12_then -/
theorem d_X12_then_0 : kf_dq cX12_then 0 1 1 (.aload_n 0) := ⟨by decide +kernel, rfl⟩
theorem d_X12_then_1 : kf_dq cX12_then 1 2 1 (.iload_n 1) := ⟨by decide +kernel, rfl⟩
theorem d_X12_then_2 : kf_dq cX12_then 2 5 3 (.invokevirtual 387) := ⟨by decide +kernel, rfl⟩
theorem d_X12_then_5 : kf_dj cX12_then 5 8 24 (.ifCond .eq) := ⟨19, by decide +kernel, rfl, by decide⟩
theorem d_X12_then_8 : kf_dq cX12_then 8 9 1 (.iload_n 2) := ⟨by decide +kernel, rfl⟩
theorem d_X12_then_9 : kf_dq cX12_then 9 12 3 (.invokestatic 411) := ⟨by decide +kernel, rfl⟩
theorem d_X12_then_12 : kf_dj cX12_then 12 15 24 (.ifCond .eq) := ⟨12, by decide +kernel, rfl, by decide⟩
theorem d_X12_then_15 : kf_dq cX12_then 15 16 1 (.iload_n 3) := ⟨by decide +kernel, rfl⟩
theorem d_X12_then_16 : kf_dq cX12_then 16 17 1 (.iconst 0) := ⟨by decide +kernel, rfl⟩
theorem d_X12_then_17 : kf_dq cX12_then 17 18 1 (.iconst 5) := ⟨by decide +kernel, rfl⟩
theorem d_X12_then_18 : kf_dq cX12_then 18 21 3 (.invokestatic 313) := ⟨by decide +kernel, rfl⟩
theorem d_X12_then_21 : kf_dj cX12_then 21 24 26 (.ifCond .ne) := ⟨5, by decide +kernel, rfl, by decide⟩
theorem d_X12_then_24 : kf_dq cX12_then 24 25 1 (.iconst (-1)) := ⟨by decide +kernel, rfl⟩
theorem d_X12_then_25 : kf_dq cX12_then 25 26 1 (.ireturn) := ⟨by decide +kernel, rfl⟩
theorem d_X12_then_26 : kf_dq cX12_then 26 27 1 (.aload_n 0) := ⟨by decide +kernel, rfl⟩
theorem d_X12_then_27 : kf_dq cX12_then 27 30 3 (.invokevirtual 323) := ⟨by decide +kernel, rfl⟩
theorem d_X12_then_30 : kf_dq cX12_then 30 31 1 (.aload_n 0) := ⟨by decide +kernel, rfl⟩
theorem d_X12_then_31 : kf_dq cX12_then 31 32 1 (.iload_n 2) := ⟨by decide +kernel, rfl⟩
theorem d_X12_then_32 : kf_dq cX12_then 32 35 3 (.invokevirtual 414) := ⟨by decide +kernel, rfl⟩
theorem d_X12_then_35 : kf_dq cX12_then 35 36 1 (.iload_n 3) := ⟨by decide +kernel, rfl⟩
theorem d_X12_then_36 : kf_dq cX12_then 36 37 1 (.iconst 4) := ⟨by decide +kernel, rfl⟩
theorem d_X12_then_37 : kf_dj cX12_then 37 40 53 (.if_icmp .ge) := ⟨16, by decide +kernel, rfl, by decide⟩
theorem d_X12_then_40 : kf_dq cX12_then 40 41 1 (.aload_n 0) := ⟨by decide +kernel, rfl⟩
theorem d_X12_then_41 : kf_dq cX12_then 41 44 3 (.getfield 122) := ⟨by decide +kernel, rfl⟩
theorem d_X12_then_44 : kf_dq cX12_then 44 45 1 (.iconst 4) := ⟨by decide +kernel, rfl⟩
theorem d_X12_then_45 : kf_dq cX12_then 45 46 1 (.iload_n 1) := ⟨by decide +kernel, rfl⟩
theorem d_X12_then_46 : kf_dq cX12_then 46 47 1 (.imul) := ⟨by decide +kernel, rfl⟩
theorem d_X12_then_47 : kf_dq cX12_then 47 48 1 (.iload_n 3) := ⟨by decide +kernel, rfl⟩
theorem d_X12_then_48 : kf_dq cX12_then 48 49 1 (.iadd) := ⟨by decide +kernel, rfl⟩
theorem d_X12_then_49 : kf_dq cX12_then 49 50 1 (.iaload) := ⟨by decide +kernel, rfl⟩
theorem d_X12_then_50 : kf_dj cX12_then 50 53 75 .goto := ⟨25, by decide +kernel, rfl, by decide⟩
theorem d_X12_then_53 : kf_dq cX12_then 53 54 1 (.iload_n 3) := ⟨by decide +kernel, rfl⟩
theorem d_X12_then_54 : kf_dq cX12_then 54 55 1 (.iconst 4) := ⟨by decide +kernel, rfl⟩
theorem d_X12_then_55 : kf_dj cX12_then 55 58 66 (.if_icmp .ne) := ⟨11, by decide +kernel, rfl, by decide⟩
theorem d_X12_then_58 : kf_dq cX12_then 58 59 1 (.aload_n 0) := ⟨by decide +kernel, rfl⟩
theorem d_X12_then_59 : kf_dq cX12_then 59 60 1 (.iload_n 1) := ⟨by decide +kernel, rfl⟩
theorem d_X12_then_60 : kf_dq cX12_then 60 63 3 (.invokevirtual 390) := ⟨by decide +kernel, rfl⟩
theorem d_X12_then_63 : kf_dj cX12_then 63 66 75 .goto := ⟨12, by decide +kernel, rfl, by decide⟩
theorem d_X12_then_66 : kf_dq cX12_then 66 67 1 (.aload_n 0) := ⟨by decide +kernel, rfl⟩
theorem d_X12_then_67 : kf_dq cX12_then 67 70 3 (.getfield 122) := ⟨by decide +kernel, rfl⟩
theorem d_X12_then_70 : kf_dq cX12_then 70 72 2 (.bipush 42) := ⟨by decide +kernel, rfl⟩
theorem d_X12_then_72 : kf_dq cX12_then 72 73 1 (.iload_n 1) := ⟨by decide +kernel, rfl⟩
theorem d_X12_then_73 : kf_dq cX12_then 73 74 1 (.iadd) := ⟨by decide +kernel, rfl⟩
theorem d_X12_then_74 : kf_dq cX12_then 74 75 1 (.iaload) := ⟨by decide +kernel, rfl⟩
theorem d_X12_then_75 : kf_dq cX12_then 75 76 1 (.ireturn) := ⟨by decide +kernel, rfl⟩
def f_X12_then (v0 : Nat) (v1 : Int32) (v2 : Int32) (v3 : Int32) (σ : kf_St) : Option (Int32 × kf_St) :=
  (f_X12_isDoor v0 v1 σ).bind fun q_1 =>
  if q_1.1 = 0 then
    some ((-1), q_1.2)
  else
    (f_X12_isLong v2 q_1.2).bind fun q_3 =>
    if q_3.1 = 0 then
      some ((-1), q_3.2)
    else
      (f_X12_in v3 0 5 q_3.2).bind fun q_5 =>
      if q_5.1 = 0 then
        some ((-1), q_5.2)
      else
        (f_X12_copies v0 q_5.2).bind fun q_7 =>
        (f_X12_goes v0 v2 q_7).bind fun q_8 =>
        if 4 ≤ v3 then
          if v3 = 4 then
            (f_X12_knownBy v0 v1 q_8).bind fun q_12 =>
            some (q_12.1, q_12.2)
          else
            if kf_ix (42 + v1) (kf_ln (kf_rf v0 52)) = true then
            some ((q_8.1 (kf_rf v0 52) (Int32.toNatClampNeg (42 + v1))), q_8)
            else none
        else
          if kf_ix ((4 * v1) + v3) (kf_ln (kf_rf v0 52)) = true then
          some ((q_8.1 (kf_rf v0 52) (Int32.toNatClampNeg ((4 * v1) + v3))), q_8)
          else none
set_option maxRecDepth 100000 in
set_option maxHeartbeats 4000000 in
theorem c_X12_then {G : kf_G} (hty : kf_wt G) (v0 : Nat) (v1 : Int32) (v2 : Int32) (v3 : Int32) (k_v0 : kf_kd G v0 = 13) (σ : kf_St) {q : (Int32 × kf_St)} (h : f_X12_then v0 v1 v2 v3 σ = some q) : kf_Ct (7) yX12_then cX12_then 4 (some .int) G [.ref (kf_ad G v0), .int v1, .int v2, .int v3] σ (some (.int q.1)) q.2 := by
  refine kf_Ct.of hty.1 (lv := [(0, .ref (kf_ad G v0)), (1, .int v1), (2, .int v2), (3, .int v3)]) (by decide +kernel) rfl (Nat.le_of_ble_eq_true rfl) (fun X E => ?_)
  unfold f_X12_then at h
  refine wa_aload_n 0 rfl E d_X12_then_0 ?_
  refine wa_iload_n 1 rfl E d_X12_then_1 ?_
  obtain ⟨q_1, hq_1, h⟩ := kf_bd h
  refine wa_callV (st2 := [.int q_1.1]) (c_X12_isDoor hty v0 v1 k_v0 σ hq_1) mv_X12_isDoor ml_X12_387 k_v0 rfl (Nat.le_of_ble_eq_true rfl) rfl (Nat.le_of_ble_eq_true rfl) E d_X12_then_2 rfl ?_
  refine wa_if_eq E d_X12_then_5 (fun c_2 => ?_) (fun c_2 => ?_)
  · replace h := kf_ift c_2 h
    refine wa_iconst (-1) ic_m1 E d_X12_then_24 ?_
    cases h
    exact wa_iret E d_X12_then_25
  · replace h := kf_iff c_2 h
    refine wa_iload_n 2 rfl E d_X12_then_8 ?_
    obtain ⟨q_3, hq_3, h⟩ := kf_bd h
    refine wa_callS (st2 := [.int q_3.1]) (c_X12_isLong hty v2 q_1.2 hq_3) mt_X12_isLong ml_X12_411 rfl (Nat.le_of_ble_eq_true rfl) rfl (Nat.le_of_ble_eq_true rfl) E d_X12_then_9 rfl ?_
    refine wa_if_eq E d_X12_then_12 (fun c_4 => ?_) (fun c_4 => ?_)
    · replace h := kf_ift c_4 h
      refine wa_iconst (-1) ic_m1 E d_X12_then_24 ?_
      cases h
      exact wa_iret E d_X12_then_25
    · replace h := kf_iff c_4 h
      refine wa_iload_n 3 rfl E d_X12_then_15 ?_
      refine wa_iconst 0 ic_0 E d_X12_then_16 ?_
      refine wa_iconst 5 ic_5 E d_X12_then_17 ?_
      obtain ⟨q_5, hq_5, h⟩ := kf_bd h
      refine wa_callS (st2 := [.int q_5.1]) (c_X12_in hty v3 0 5 q_3.2 hq_5) mt_X12_in ml_X12_313 rfl (Nat.le_of_ble_eq_true rfl) rfl (Nat.le_of_ble_eq_true rfl) E d_X12_then_18 rfl ?_
      refine wa_if_ne E d_X12_then_21 (fun c_6 => ?_) (fun c_6 => ?_)
      · replace h := kf_iff c_6 h
        refine wa_aload_n 0 rfl E d_X12_then_26 ?_
        obtain ⟨q_7, hq_7, h⟩ := kf_bd h
        refine wa_callV (st2 := []) (c_X12_copies hty v0 k_v0 q_5.2 hq_7) mv_X12_copies ml_X12_323 k_v0 rfl (Nat.le_of_ble_eq_true rfl) rfl (Nat.le_of_ble_eq_true rfl) E d_X12_then_27 rfl ?_
        refine wa_aload_n 0 rfl E d_X12_then_30 ?_
        refine wa_iload_n 2 rfl E d_X12_then_31 ?_
        obtain ⟨q_8, hq_8, h⟩ := kf_bd h
        refine wa_callV (st2 := []) (c_X12_goes hty v0 v2 k_v0 q_7 hq_8) mv_X12_goes ml_X12_414 k_v0 rfl (Nat.le_of_ble_eq_true rfl) rfl (Nat.le_of_ble_eq_true rfl) E d_X12_then_32 rfl ?_
        refine wa_iload_n 3 rfl E d_X12_then_35 ?_
        refine wa_iconst 4 ic_4 E d_X12_then_36 ?_
        refine wa_icmp_ge E d_X12_then_37 (fun c_9 => ?_) (fun c_9 => ?_)
        · replace h := kf_ift c_9 h
          refine wa_iload_n 3 rfl E d_X12_then_53 ?_
          refine wa_iconst 4 ic_4 E d_X12_then_54 ?_
          refine wa_icmp_ne E d_X12_then_55 (fun c_10 => ?_) (fun c_10 => ?_)
          · replace h := kf_iff c_10 h
            refine wa_aload_n 0 rfl E d_X12_then_66 ?_
            refine wa_getR fl_X12_122 k_v0 rfl E d_X12_then_67 ?_
            refine wa_bipush 42 bp_42 E d_X12_then_70 ?_
            refine wa_iload_n 1 rfl E d_X12_then_72 ?_
            refine wa_iadd E d_X12_then_73 ?_
            obtain ⟨g_11, h⟩ := kf_gd h
            refine wa_iald (kf_wtf hty 52 49 k_v0 (by decide) rfl) g_11 E d_X12_then_74 ?_
            cases h
            exact wa_iret E d_X12_then_75
          · replace h := kf_ift c_10 h
            refine wa_aload_n 0 rfl E d_X12_then_58 ?_
            refine wa_iload_n 1 rfl E d_X12_then_59 ?_
            obtain ⟨q_12, hq_12, h⟩ := kf_bd h
            refine wa_callV (st2 := [.int q_12.1]) (c_X12_knownBy hty v0 v1 k_v0 q_8 hq_12) mv_X12_knownBy ml_X12_390 k_v0 rfl (Nat.le_of_ble_eq_true rfl) rfl (Nat.le_of_ble_eq_true rfl) E d_X12_then_60 rfl ?_
            refine wa_goto E d_X12_then_63 ?_
            cases h
            exact wa_iret E d_X12_then_75
        · replace h := kf_iff c_9 h
          refine wa_aload_n 0 rfl E d_X12_then_40 ?_
          refine wa_getR fl_X12_122 k_v0 rfl E d_X12_then_41 ?_
          refine wa_iconst 4 ic_4 E d_X12_then_44 ?_
          refine wa_iload_n 1 rfl E d_X12_then_45 ?_
          refine wa_imul E d_X12_then_46 ?_
          refine wa_iload_n 3 rfl E d_X12_then_47 ?_
          refine wa_iadd E d_X12_then_48 ?_
          obtain ⟨g_13, h⟩ := kf_gd h
          refine wa_iald (kf_wtf hty 52 49 k_v0 (by decide) rfl) g_13 E d_X12_then_49 ?_
          refine wa_goto E d_X12_then_50 ?_
          cases h
          exact wa_iret E d_X12_then_75
      · replace h := kf_ift c_6 h
        refine wa_iconst (-1) ic_m1 E d_X12_then_24 ?_
        cases h
        exact wa_iret E d_X12_then_25
/-! X12_year -/
theorem d_X12_year_0 : kf_dq cX12_year 0 1 1 (.aload_n 0) := ⟨by decide +kernel, rfl⟩
theorem d_X12_year_1 : kf_dq cX12_year 1 2 1 (.iload_n 1) := ⟨by decide +kernel, rfl⟩
theorem d_X12_year_2 : kf_dq cX12_year 2 3 1 (.iload_n 2) := ⟨by decide +kernel, rfl⟩
theorem d_X12_year_3 : kf_dq cX12_year 3 6 3 (.invokevirtual 399) := ⟨by decide +kernel, rfl⟩
theorem d_X12_year_6 : kf_dj cX12_year 6 9 27 (.ifCond .eq) := ⟨21, by decide +kernel, rfl, by decide⟩
theorem d_X12_year_9 : kf_dq cX12_year 9 10 1 (.iload_n 3) := ⟨by decide +kernel, rfl⟩
theorem d_X12_year_10 : kf_dq cX12_year 10 13 3 (.invokestatic 411) := ⟨by decide +kernel, rfl⟩
theorem d_X12_year_13 : kf_dj cX12_year 13 16 27 (.ifCond .eq) := ⟨14, by decide +kernel, rfl, by decide⟩
theorem d_X12_year_16 : kf_dq cX12_year 16 18 2 (.iload 4) := ⟨by decide +kernel, rfl⟩
theorem d_X12_year_18 : kf_dq cX12_year 18 19 1 (.iconst 1) := ⟨by decide +kernel, rfl⟩
theorem d_X12_year_19 : kf_dq cX12_year 19 21 2 (.bipush 20) := ⟨by decide +kernel, rfl⟩
theorem d_X12_year_21 : kf_dq cX12_year 21 24 3 (.invokestatic 313) := ⟨by decide +kernel, rfl⟩
theorem d_X12_year_24 : kf_dj cX12_year 24 27 29 (.ifCond .ne) := ⟨5, by decide +kernel, rfl, by decide⟩
theorem d_X12_year_27 : kf_dq cX12_year 27 28 1 (.iconst (-1)) := ⟨by decide +kernel, rfl⟩
theorem d_X12_year_28 : kf_dq cX12_year 28 29 1 (.ireturn) := ⟨by decide +kernel, rfl⟩
theorem d_X12_year_29 : kf_dq cX12_year 29 30 1 (.iconst 0) := ⟨by decide +kernel, rfl⟩
theorem d_X12_year_30 : kf_dq cX12_year 30 32 2 (.istore 5) := ⟨by decide +kernel, rfl⟩
theorem d_X12_year_32 : kf_dq cX12_year 32 33 1 (.iconst 0) := ⟨by decide +kernel, rfl⟩
theorem d_X12_year_33 : kf_dq cX12_year 33 35 2 (.istore 6) := ⟨by decide +kernel, rfl⟩
theorem d_X12_year_35 : kf_dq cX12_year 35 37 2 (.iload 6) := ⟨by decide +kernel, rfl⟩
theorem d_X12_year_37 : kf_dq cX12_year 37 39 2 (.iload 4) := ⟨by decide +kernel, rfl⟩
theorem d_X12_year_39 : kf_dj cX12_year 39 42 80 (.if_icmp .ge) := ⟨41, by decide +kernel, rfl, by decide⟩
theorem d_X12_year_42 : kf_dq cX12_year 42 43 1 (.aload_n 0) := ⟨by decide +kernel, rfl⟩
theorem d_X12_year_43 : kf_dq cX12_year 43 46 3 (.invokevirtual 323) := ⟨by decide +kernel, rfl⟩
theorem d_X12_year_46 : kf_dq cX12_year 46 47 1 (.aload_n 0) := ⟨by decide +kernel, rfl⟩
theorem d_X12_year_47 : kf_dq cX12_year 47 48 1 (.dup) := ⟨by decide +kernel, rfl⟩
theorem d_X12_year_48 : kf_dq cX12_year 48 51 3 (.getfield 317) := ⟨by decide +kernel, rfl⟩
theorem d_X12_year_51 : kf_dq cX12_year 51 53 2 (.iload 6) := ⟨by decide +kernel, rfl⟩
theorem d_X12_year_53 : kf_dq cX12_year 53 54 1 (.iadd) := ⟨by decide +kernel, rfl⟩
theorem d_X12_year_54 : kf_dq cX12_year 54 57 3 (.putfield 317) := ⟨by decide +kernel, rfl⟩
theorem d_X12_year_57 : kf_dq cX12_year 57 58 1 (.aload_n 0) := ⟨by decide +kernel, rfl⟩
theorem d_X12_year_58 : kf_dq cX12_year 58 59 1 (.iload_n 3) := ⟨by decide +kernel, rfl⟩
theorem d_X12_year_59 : kf_dq cX12_year 59 62 3 (.invokevirtual 414) := ⟨by decide +kernel, rfl⟩
theorem d_X12_year_62 : kf_dq cX12_year 62 63 1 (.aload_n 0) := ⟨by decide +kernel, rfl⟩
theorem d_X12_year_63 : kf_dq cX12_year 63 64 1 (.iload_n 1) := ⟨by decide +kernel, rfl⟩
theorem d_X12_year_64 : kf_dq cX12_year 64 67 3 (.invokevirtual 390) := ⟨by decide +kernel, rfl⟩
theorem d_X12_year_67 : kf_dq cX12_year 67 68 1 (.iload_n 2) := ⟨by decide +kernel, rfl⟩
theorem d_X12_year_68 : kf_dj cX12_year 68 71 74 (.if_icmp .ne) := ⟨6, by decide +kernel, rfl, by decide⟩
theorem d_X12_year_71 : kf_dq cX12_year 71 74 3 (.iinc 5 1) := ⟨by decide +kernel, rfl⟩
theorem d_X12_year_74 : kf_dq cX12_year 74 77 3 (.iinc 6 1) := ⟨by decide +kernel, rfl⟩
theorem d_X12_year_77 : kf_dj cX12_year 77 80 35 .goto := ⟨(-42), by decide +kernel, rfl, by decide⟩
theorem d_X12_year_80 : kf_dq cX12_year 80 82 2 (.iload 5) := ⟨by decide +kernel, rfl⟩
theorem d_X12_year_82 : kf_dq cX12_year 82 83 1 (.ireturn) := ⟨by decide +kernel, rfl⟩
def f_X12_year_74 (rec35 : Nat → Int32 → Int32 → Int32 → Int32 → Int32 → Int32 → kf_St → Option (Int32 × kf_St)) (v0 : Nat) (v1 : Int32) (v2 : Int32) (v3 : Int32) (v4 : Int32) (v5 : Int32) (v6 : Int32) (σ : kf_St) : Option (Int32 × kf_St) :=
  kf_lt (v6 + 1) fun v6_1 =>
  rec35 v0 v1 v2 v3 v4 v5 v6_1 σ
set_option maxRecDepth 100000 in
set_option maxHeartbeats 4000000 in
theorem b_X12_year_74 {X : kf_X} {G : kf_G} {rec35 : Nat → Int32 → Int32 → Int32 → Int32 → Int32 → Int32 → kf_St → Option (Int32 × kf_St)} {q : (Int32 × kf_St)} (E : kf_ok X G cX12_year RX12 7 (some .int) (7)) (hty : kf_wt G) (hrec35 : ∀ (v0 : Nat) (v1 : Int32) (v2 : Int32) (v3 : Int32) (v4 : Int32) (v5 : Int32) (v6 : Int32) (k_v0 : kf_kd G v0 = 13) (σ : kf_St), rec35 v0 v1 v2 v3 v4 v5 v6 σ = some q → kf_WA X G 7 (kf_Q X G (some (.int q.1)) q.2) 35 [(0, .ref (kf_ad G v0)), (1, .int v1), (2, .int v2), (3, .int v3), (4, .int v4), (5, .int v5), (6, .int v6)] [] σ) (v0 : Nat) (v1 : Int32) (v2 : Int32) (v3 : Int32) (v4 : Int32) (v5 : Int32) (v6 : Int32) (k_v0 : kf_kd G v0 = 13) (σ : kf_St) (h : f_X12_year_74 rec35 v0 v1 v2 v3 v4 v5 v6 σ = some q) : kf_WA X G 7 (kf_Q X G (some (.int q.1)) q.2) 74 [(0, .ref (kf_ad G v0)), (1, .int v1), (2, .int v2), (3, .int v3), (4, .int v4), (5, .int v5), (6, .int v6)] [] σ := by
  unfold f_X12_year_74 at h
  obtain ⟨v6_1, ev6_1, h⟩ := kf_lte h
  refine wa_iinc (lv' := [(6, .int v6_1), (0, .ref (kf_ad G v0)), (1, .int v1), (2, .int v2), (3, .int v3), (4, .int v4), (5, .int v5)]) v6_1 6 rfl (kf_inc ic_1 ev6_1) (by decide) rfl E d_X12_year_74 ?_
  refine wa_goto E d_X12_year_77 ?_
  refine wa_sub [1, 2, 3, 4, 5, 6, 0] rfl ?_
  exact hrec35 v0 v1 v2 v3 v4 v5 v6_1 k_v0 σ h
def f_X12_year_35_s (rec35 : Nat → Int32 → Int32 → Int32 → Int32 → Int32 → Int32 → kf_St → Option (Int32 × kf_St)) (v0 : Nat) (v1 : Int32) (v2 : Int32) (v3 : Int32) (v4 : Int32) (v5 : Int32) (v6 : Int32) (σ : kf_St) : Option (Int32 × kf_St) :=
  if v4 ≤ v6 then
    some (v5, σ)
  else
    (f_X12_copies v0 σ).bind fun q_2 =>
    kf_lt (kf_wi q_2 v0 53 ((q_2.1 v0 53) + v6)) fun σ_3 =>
    (f_X12_goes v0 v3 σ_3).bind fun q_4 =>
    (f_X12_knownBy v0 v1 q_4).bind fun q_5 =>
    if q_5.1 = v2 then
      kf_lt (v5 + 1) fun v5_7 =>
      f_X12_year_74 rec35 v0 v1 v2 v3 v4 v5_7 v6 q_5.2
    else
      f_X12_year_74 rec35 v0 v1 v2 v3 v4 v5 v6 q_5.2
def f_X12_year_35 : Nat → Nat → Int32 → Int32 → Int32 → Int32 → Int32 → Int32 → kf_St → Option (Int32 × kf_St)
  | 0, _, _, _, _, _, _, _, _ => none
  | n + 1, v0, v1, v2, v3, v4, v5, v6, σ => f_X12_year_35_s (f_X12_year_35 n) v0 v1 v2 v3 v4 v5 v6 σ
set_option maxRecDepth 100000 in
set_option maxHeartbeats 4000000 in
theorem b_X12_year_35_s {X : kf_X} {G : kf_G} (rec35 : Nat → Int32 → Int32 → Int32 → Int32 → Int32 → Int32 → kf_St → Option (Int32 × kf_St)) {q : (Int32 × kf_St)} (E : kf_ok X G cX12_year RX12 7 (some .int) (7)) (hty : kf_wt G) (hrec35 : ∀ (v0 : Nat) (v1 : Int32) (v2 : Int32) (v3 : Int32) (v4 : Int32) (v5 : Int32) (v6 : Int32) (k_v0 : kf_kd G v0 = 13) (σ : kf_St), rec35 v0 v1 v2 v3 v4 v5 v6 σ = some q → kf_WA X G 7 (kf_Q X G (some (.int q.1)) q.2) 35 [(0, .ref (kf_ad G v0)), (1, .int v1), (2, .int v2), (3, .int v3), (4, .int v4), (5, .int v5), (6, .int v6)] [] σ) (v0 : Nat) (v1 : Int32) (v2 : Int32) (v3 : Int32) (v4 : Int32) (v5 : Int32) (v6 : Int32) (k_v0 : kf_kd G v0 = 13) (σ : kf_St) (h : f_X12_year_35_s rec35 v0 v1 v2 v3 v4 v5 v6 σ = some q) : kf_WA X G 7 (kf_Q X G (some (.int q.1)) q.2) 35 [(0, .ref (kf_ad G v0)), (1, .int v1), (2, .int v2), (3, .int v3), (4, .int v4), (5, .int v5), (6, .int v6)] [] σ := by
  unfold f_X12_year_35_s at h
  refine wa_iload 6 rfl E d_X12_year_35 ?_
  refine wa_iload 4 rfl E d_X12_year_37 ?_
  refine wa_icmp_ge E d_X12_year_39 (fun c_1 => ?_) (fun c_1 => ?_)
  · replace h := kf_ift c_1 h
    refine wa_iload 5 rfl E d_X12_year_80 ?_
    cases h
    exact wa_iret E d_X12_year_82
  · replace h := kf_iff c_1 h
    refine wa_aload_n 0 rfl E d_X12_year_42 ?_
    obtain ⟨q_2, hq_2, h⟩ := kf_bd h
    refine wa_callV (st2 := []) (c_X12_copies hty v0 k_v0 σ hq_2) mv_X12_copies ml_X12_323 k_v0 rfl (Nat.le_of_ble_eq_true rfl) rfl (Nat.le_of_ble_eq_true rfl) E d_X12_year_43 rfl ?_
    refine wa_aload_n 0 rfl E d_X12_year_46 ?_
    refine wa_dup rfl E d_X12_year_47 ?_
    refine wa_getI fl_X12_317 k_v0 rfl E d_X12_year_48 ?_
    refine wa_iload 6 rfl E d_X12_year_51 ?_
    refine wa_iadd E d_X12_year_53 ?_
    obtain ⟨σ_3, eσ_3, h⟩ := kf_lte h
    refine wa_putI fl_X12_317 fp_12_53 k_v0 rfl (by decide) rfl rfl E d_X12_year_54 eσ_3 ?_
    refine wa_aload_n 0 rfl E d_X12_year_57 ?_
    refine wa_iload_n 3 rfl E d_X12_year_58 ?_
    obtain ⟨q_4, hq_4, h⟩ := kf_bd h
    refine wa_callV (st2 := []) (c_X12_goes hty v0 v3 k_v0 σ_3 hq_4) mv_X12_goes ml_X12_414 k_v0 rfl (Nat.le_of_ble_eq_true rfl) rfl (Nat.le_of_ble_eq_true rfl) E d_X12_year_59 rfl ?_
    refine wa_aload_n 0 rfl E d_X12_year_62 ?_
    refine wa_iload_n 1 rfl E d_X12_year_63 ?_
    obtain ⟨q_5, hq_5, h⟩ := kf_bd h
    refine wa_callV (st2 := [.int q_5.1]) (c_X12_knownBy hty v0 v1 k_v0 q_4 hq_5) mv_X12_knownBy ml_X12_390 k_v0 rfl (Nat.le_of_ble_eq_true rfl) rfl (Nat.le_of_ble_eq_true rfl) E d_X12_year_64 rfl ?_
    refine wa_iload_n 2 rfl E d_X12_year_67 ?_
    refine wa_icmp_ne E d_X12_year_68 (fun c_6 => ?_) (fun c_6 => ?_)
    · replace h := kf_iff c_6 h
      exact b_X12_year_74 E hty hrec35 v0 v1 v2 v3 v4 v5 v6 k_v0 q_5.2 h
    · replace h := kf_ift c_6 h
      obtain ⟨v5_7, ev5_7, h⟩ := kf_lte h
      refine wa_iinc (lv' := [(5, .int v5_7), (0, .ref (kf_ad G v0)), (1, .int v1), (2, .int v2), (3, .int v3), (4, .int v4), (6, .int v6)]) v5_7 5 rfl (kf_inc ic_1 ev5_7) (by decide) rfl E d_X12_year_71 ?_
      refine wa_sub [1, 2, 3, 4, 5, 0, 6] rfl ?_
      exact b_X12_year_74 E hty hrec35 v0 v1 v2 v3 v4 v5_7 v6 k_v0 q_5.2 h
theorem b_X12_year_35 {X : kf_X} {G : kf_G} {q : (Int32 × kf_St)} (E : kf_ok X G cX12_year RX12 7 (some .int) (7)) (hty : kf_wt G) : ∀ (N : Nat) (v0 : Nat) (v1 : Int32) (v2 : Int32) (v3 : Int32) (v4 : Int32) (v5 : Int32) (v6 : Int32) (k_v0 : kf_kd G v0 = 13) (σ : kf_St) (_ : f_X12_year_35 N v0 v1 v2 v3 v4 v5 v6 σ = some q), kf_WA X G 7 (kf_Q X G (some (.int q.1)) q.2) 35 [(0, .ref (kf_ad G v0)), (1, .int v1), (2, .int v2), (3, .int v3), (4, .int v4), (5, .int v5), (6, .int v6)] [] σ
  | 0, _, _, _, _, _, _, _, _, _, h => by cases h
  | N + 1, v0, v1, v2, v3, v4, v5, v6, k_v0, σ, h => b_X12_year_35_s _ E hty (b_X12_year_35 E hty N) v0 v1 v2 v3 v4 v5 v6 k_v0 σ h
def f_X12_year (v0 : Nat) (v1 : Int32) (v2 : Int32) (v3 : Int32) (v4 : Int32) (σ : kf_St) : Option (Int32 × kf_St) :=
  (f_X12_areBoth v0 v1 v2 σ).bind fun q_1 =>
  if q_1.1 = 0 then
    some ((-1), q_1.2)
  else
    (f_X12_isLong v3 q_1.2).bind fun q_3 =>
    if q_3.1 = 0 then
      some ((-1), q_3.2)
    else
      (f_X12_in v4 1 20 q_3.2).bind fun q_5 =>
      if q_5.1 = 0 then
        some ((-1), q_5.2)
      else
        f_X12_year_35 kf_F v0 v1 v2 v3 v4 0 0 q_5.2
set_option maxRecDepth 100000 in
set_option maxHeartbeats 4000000 in
theorem c_X12_year {G : kf_G} (hty : kf_wt G) (v0 : Nat) (v1 : Int32) (v2 : Int32) (v3 : Int32) (v4 : Int32) (k_v0 : kf_kd G v0 = 13) (σ : kf_St) {q : (Int32 × kf_St)} (h : f_X12_year v0 v1 v2 v3 v4 σ = some q) : kf_Ct (7) yX12_year cX12_year 7 (some .int) G [.ref (kf_ad G v0), .int v1, .int v2, .int v3, .int v4] σ (some (.int q.1)) q.2 := by
  refine kf_Ct.of hty.1 (lv := [(0, .ref (kf_ad G v0)), (1, .int v1), (2, .int v2), (3, .int v3), (4, .int v4)]) (by decide +kernel) rfl (Nat.le_of_ble_eq_true rfl) (fun X E => ?_)
  unfold f_X12_year at h
  refine wa_aload_n 0 rfl E d_X12_year_0 ?_
  refine wa_iload_n 1 rfl E d_X12_year_1 ?_
  refine wa_iload_n 2 rfl E d_X12_year_2 ?_
  obtain ⟨q_1, hq_1, h⟩ := kf_bd h
  refine wa_callV (st2 := [.int q_1.1]) (c_X12_areBoth hty v0 v1 v2 k_v0 σ hq_1) mv_X12_areBoth ml_X12_399 k_v0 rfl (Nat.le_of_ble_eq_true rfl) rfl (Nat.le_of_ble_eq_true rfl) E d_X12_year_3 rfl ?_
  refine wa_if_eq E d_X12_year_6 (fun c_2 => ?_) (fun c_2 => ?_)
  · replace h := kf_ift c_2 h
    refine wa_iconst (-1) ic_m1 E d_X12_year_27 ?_
    cases h
    exact wa_iret E d_X12_year_28
  · replace h := kf_iff c_2 h
    refine wa_iload_n 3 rfl E d_X12_year_9 ?_
    obtain ⟨q_3, hq_3, h⟩ := kf_bd h
    refine wa_callS (st2 := [.int q_3.1]) (c_X12_isLong hty v3 q_1.2 hq_3) mt_X12_isLong ml_X12_411 rfl (Nat.le_of_ble_eq_true rfl) rfl (Nat.le_of_ble_eq_true rfl) E d_X12_year_10 rfl ?_
    refine wa_if_eq E d_X12_year_13 (fun c_4 => ?_) (fun c_4 => ?_)
    · replace h := kf_ift c_4 h
      refine wa_iconst (-1) ic_m1 E d_X12_year_27 ?_
      cases h
      exact wa_iret E d_X12_year_28
    · replace h := kf_iff c_4 h
      refine wa_iload 4 rfl E d_X12_year_16 ?_
      refine wa_iconst 1 ic_1 E d_X12_year_18 ?_
      refine wa_bipush 20 bp_20 E d_X12_year_19 ?_
      obtain ⟨q_5, hq_5, h⟩ := kf_bd h
      refine wa_callS (st2 := [.int q_5.1]) (c_X12_in hty v4 1 20 q_3.2 hq_5) mt_X12_in ml_X12_313 rfl (Nat.le_of_ble_eq_true rfl) rfl (Nat.le_of_ble_eq_true rfl) E d_X12_year_21 rfl ?_
      refine wa_if_ne E d_X12_year_24 (fun c_6 => ?_) (fun c_6 => ?_)
      · replace h := kf_iff c_6 h
        refine wa_iconst 0 ic_0 E d_X12_year_29 ?_
        refine wa_istore (lv' := [(5, .int 0), (0, .ref (kf_ad G v0)), (1, .int v1), (2, .int v2), (3, .int v3), (4, .int v4)]) (by decide) rfl E d_X12_year_30 ?_
        refine wa_iconst 0 ic_0 E d_X12_year_32 ?_
        refine wa_istore (lv' := [(6, .int 0), (5, .int 0), (0, .ref (kf_ad G v0)), (1, .int v1), (2, .int v2), (3, .int v3), (4, .int v4)]) (by decide) rfl E d_X12_year_33 ?_
        refine wa_sub [2, 3, 4, 5, 6, 1, 0] rfl ?_
        exact b_X12_year_35 E hty kf_F v0 v1 v2 v3 v4 0 0 k_v0 q_5.2 h
      · replace h := kf_ift c_6 h
        refine wa_iconst (-1) ic_m1 E d_X12_year_27 ?_
        cases h
        exact wa_iret E d_X12_year_28
/-! X12_tell -/
theorem d_X12_tell_0 : kf_dq cX12_tell 0 1 1 (.aload_n 0) := ⟨by decide +kernel, rfl⟩
theorem d_X12_tell_1 : kf_dq cX12_tell 1 4 3 (.getfield 254) := ⟨by decide +kernel, rfl⟩
theorem d_X12_tell_4 : kf_dq cX12_tell 4 6 2 (.bipush 20) := ⟨by decide +kernel, rfl⟩
theorem d_X12_tell_6 : kf_dj cX12_tell 6 9 33 (.if_icmp .eq) := ⟨27, by decide +kernel, rfl, by decide⟩
theorem d_X12_tell_9 : kf_dq cX12_tell 9 10 1 (.aload_n 0) := ⟨by decide +kernel, rfl⟩
theorem d_X12_tell_10 : kf_dq cX12_tell 10 11 1 (.iload_n 1) := ⟨by decide +kernel, rfl⟩
theorem d_X12_tell_11 : kf_dq cX12_tell 11 14 3 (.invokevirtual 387) := ⟨by decide +kernel, rfl⟩
theorem d_X12_tell_14 : kf_dj cX12_tell 14 17 33 (.ifCond .eq) := ⟨19, by decide +kernel, rfl, by decide⟩
theorem d_X12_tell_17 : kf_dq cX12_tell 17 18 1 (.iload_n 2) := ⟨by decide +kernel, rfl⟩
theorem d_X12_tell_18 : kf_dq cX12_tell 18 21 3 (.invokestatic 408) := ⟨by decide +kernel, rfl⟩
theorem d_X12_tell_21 : kf_dj cX12_tell 21 24 33 (.ifCond .eq) := ⟨12, by decide +kernel, rfl, by decide⟩
theorem d_X12_tell_24 : kf_dq cX12_tell 24 25 1 (.iload_n 3) := ⟨by decide +kernel, rfl⟩
theorem d_X12_tell_25 : kf_dq cX12_tell 25 26 1 (.iconst (-1)) := ⟨by decide +kernel, rfl⟩
theorem d_X12_tell_26 : kf_dq cX12_tell 26 27 1 (.iconst 1) := ⟨by decide +kernel, rfl⟩
theorem d_X12_tell_27 : kf_dq cX12_tell 27 30 3 (.invokestatic 313) := ⟨by decide +kernel, rfl⟩
theorem d_X12_tell_30 : kf_dj cX12_tell 30 33 35 (.ifCond .ne) := ⟨5, by decide +kernel, rfl, by decide⟩
theorem d_X12_tell_33 : kf_dq cX12_tell 33 34 1 (.iconst (-1)) := ⟨by decide +kernel, rfl⟩
theorem d_X12_tell_34 : kf_dq cX12_tell 34 35 1 (.ireturn) := ⟨by decide +kernel, rfl⟩
theorem d_X12_tell_35 : kf_dq cX12_tell 35 36 1 (.aload_n 0) := ⟨by decide +kernel, rfl⟩
theorem d_X12_tell_36 : kf_dq cX12_tell 36 39 3 (.getfield 137) := ⟨by decide +kernel, rfl⟩
theorem d_X12_tell_39 : kf_dq cX12_tell 39 40 1 (.aload_n 0) := ⟨by decide +kernel, rfl⟩
theorem d_X12_tell_40 : kf_dq cX12_tell 40 43 3 (.getfield 254) := ⟨by decide +kernel, rfl⟩
theorem d_X12_tell_43 : kf_dq cX12_tell 43 44 1 (.iload_n 1) := ⟨by decide +kernel, rfl⟩
theorem d_X12_tell_44 : kf_dq cX12_tell 44 45 1 (.iastore) := ⟨by decide +kernel, rfl⟩
theorem d_X12_tell_45 : kf_dq cX12_tell 45 46 1 (.aload_n 0) := ⟨by decide +kernel, rfl⟩
theorem d_X12_tell_46 : kf_dq cX12_tell 46 49 3 (.getfield 140) := ⟨by decide +kernel, rfl⟩
theorem d_X12_tell_49 : kf_dq cX12_tell 49 50 1 (.aload_n 0) := ⟨by decide +kernel, rfl⟩
theorem d_X12_tell_50 : kf_dq cX12_tell 50 53 3 (.getfield 254) := ⟨by decide +kernel, rfl⟩
theorem d_X12_tell_53 : kf_dq cX12_tell 53 54 1 (.iload_n 2) := ⟨by decide +kernel, rfl⟩
theorem d_X12_tell_54 : kf_dq cX12_tell 54 55 1 (.iastore) := ⟨by decide +kernel, rfl⟩
theorem d_X12_tell_55 : kf_dq cX12_tell 55 56 1 (.aload_n 0) := ⟨by decide +kernel, rfl⟩
theorem d_X12_tell_56 : kf_dq cX12_tell 56 59 3 (.getfield 143) := ⟨by decide +kernel, rfl⟩
theorem d_X12_tell_59 : kf_dq cX12_tell 59 60 1 (.aload_n 0) := ⟨by decide +kernel, rfl⟩
theorem d_X12_tell_60 : kf_dq cX12_tell 60 63 3 (.getfield 254) := ⟨by decide +kernel, rfl⟩
theorem d_X12_tell_63 : kf_dq cX12_tell 63 64 1 (.iload_n 3) := ⟨by decide +kernel, rfl⟩
theorem d_X12_tell_64 : kf_dq cX12_tell 64 65 1 (.iastore) := ⟨by decide +kernel, rfl⟩
theorem d_X12_tell_65 : kf_dq cX12_tell 65 66 1 (.aload_n 0) := ⟨by decide +kernel, rfl⟩
theorem d_X12_tell_66 : kf_dq cX12_tell 66 67 1 (.dup) := ⟨by decide +kernel, rfl⟩
theorem d_X12_tell_67 : kf_dq cX12_tell 67 70 3 (.getfield 254) := ⟨by decide +kernel, rfl⟩
theorem d_X12_tell_70 : kf_dq cX12_tell 70 71 1 (.iconst 1) := ⟨by decide +kernel, rfl⟩
theorem d_X12_tell_71 : kf_dq cX12_tell 71 72 1 (.iadd) := ⟨by decide +kernel, rfl⟩
theorem d_X12_tell_72 : kf_dq cX12_tell 72 75 3 (.putfield 254) := ⟨by decide +kernel, rfl⟩
theorem d_X12_tell_75 : kf_dq cX12_tell 75 76 1 (.aload_n 0) := ⟨by decide +kernel, rfl⟩
theorem d_X12_tell_76 : kf_dq cX12_tell 76 79 3 (.getfield 254) := ⟨by decide +kernel, rfl⟩
theorem d_X12_tell_79 : kf_dq cX12_tell 79 80 1 (.iconst 1) := ⟨by decide +kernel, rfl⟩
theorem d_X12_tell_80 : kf_dq cX12_tell 80 81 1 (.isub) := ⟨by decide +kernel, rfl⟩
theorem d_X12_tell_81 : kf_dq cX12_tell 81 82 1 (.ireturn) := ⟨by decide +kernel, rfl⟩
def f_X12_tell (v0 : Nat) (v1 : Int32) (v2 : Int32) (v3 : Int32) (σ : kf_St) : Option (Int32 × kf_St) :=
  if (σ.1 v0 60) = 20 then
    some ((-1), σ)
  else
    (f_X12_isDoor v0 v1 σ).bind fun q_2 =>
    if q_2.1 = 0 then
      some ((-1), q_2.2)
    else
      (f_X12_isPart v2 q_2.2).bind fun q_4 =>
      if q_4.1 = 0 then
        some ((-1), q_4.2)
      else
        (f_X12_in v3 (-1) 1 q_4.2).bind fun q_6 =>
        if q_6.1 = 0 then
          some ((-1), q_6.2)
        else
          if kf_ix (q_6.2.1 v0 60) (kf_ln (kf_rf v0 61)) = true then
          kf_lt (kf_wi q_6.2 (kf_rf v0 61) (Int32.toNatClampNeg (q_6.2.1 v0 60)) v1) fun σ_9 =>
          if kf_ix (σ_9.1 v0 60) (kf_ln (kf_rf v0 62)) = true then
          kf_lt (kf_wi σ_9 (kf_rf v0 62) (Int32.toNatClampNeg (σ_9.1 v0 60)) v2) fun σ_11 =>
          if kf_ix (σ_11.1 v0 60) (kf_ln (kf_rf v0 63)) = true then
          kf_lt (kf_wi σ_11 (kf_rf v0 63) (Int32.toNatClampNeg (σ_11.1 v0 60)) v3) fun σ_13 =>
          kf_lt (kf_wi σ_13 v0 60 ((σ_13.1 v0 60) + 1)) fun σ_14 =>
          some (((σ_14.1 v0 60) - 1), σ_14)
          else none
          else none
          else none
set_option maxRecDepth 100000 in
set_option maxHeartbeats 4000000 in
theorem c_X12_tell {G : kf_G} (hty : kf_wt G) (v0 : Nat) (v1 : Int32) (v2 : Int32) (v3 : Int32) (k_v0 : kf_kd G v0 = 13) (σ : kf_St) {q : (Int32 × kf_St)} (h : f_X12_tell v0 v1 v2 v3 σ = some q) : kf_Ct (3) yX12_tell cX12_tell 4 (some .int) G [.ref (kf_ad G v0), .int v1, .int v2, .int v3] σ (some (.int q.1)) q.2 := by
  refine kf_Ct.of hty.1 (lv := [(0, .ref (kf_ad G v0)), (1, .int v1), (2, .int v2), (3, .int v3)]) (by decide +kernel) rfl (Nat.le_of_ble_eq_true rfl) (fun X E => ?_)
  unfold f_X12_tell at h
  refine wa_aload_n 0 rfl E d_X12_tell_0 ?_
  refine wa_getI fl_X12_254 k_v0 rfl E d_X12_tell_1 ?_
  refine wa_bipush 20 bp_20 E d_X12_tell_4 ?_
  refine wa_icmp_eq E d_X12_tell_6 (fun c_1 => ?_) (fun c_1 => ?_)
  · replace h := kf_ift c_1 h
    refine wa_iconst (-1) ic_m1 E d_X12_tell_33 ?_
    cases h
    exact wa_iret E d_X12_tell_34
  · replace h := kf_iff c_1 h
    refine wa_aload_n 0 rfl E d_X12_tell_9 ?_
    refine wa_iload_n 1 rfl E d_X12_tell_10 ?_
    obtain ⟨q_2, hq_2, h⟩ := kf_bd h
    refine wa_callV (st2 := [.int q_2.1]) (c_X12_isDoor hty v0 v1 k_v0 σ hq_2) mv_X12_isDoor ml_X12_387 k_v0 rfl (Nat.le_of_ble_eq_true rfl) rfl (Nat.le_of_ble_eq_true rfl) E d_X12_tell_11 rfl ?_
    refine wa_if_eq E d_X12_tell_14 (fun c_3 => ?_) (fun c_3 => ?_)
    · replace h := kf_ift c_3 h
      refine wa_iconst (-1) ic_m1 E d_X12_tell_33 ?_
      cases h
      exact wa_iret E d_X12_tell_34
    · replace h := kf_iff c_3 h
      refine wa_iload_n 2 rfl E d_X12_tell_17 ?_
      obtain ⟨q_4, hq_4, h⟩ := kf_bd h
      refine wa_callS (st2 := [.int q_4.1]) (c_X12_isPart hty v2 q_2.2 hq_4) mt_X12_isPart ml_X12_408 rfl (Nat.le_of_ble_eq_true rfl) rfl (Nat.le_of_ble_eq_true rfl) E d_X12_tell_18 rfl ?_
      refine wa_if_eq E d_X12_tell_21 (fun c_5 => ?_) (fun c_5 => ?_)
      · replace h := kf_ift c_5 h
        refine wa_iconst (-1) ic_m1 E d_X12_tell_33 ?_
        cases h
        exact wa_iret E d_X12_tell_34
      · replace h := kf_iff c_5 h
        refine wa_iload_n 3 rfl E d_X12_tell_24 ?_
        refine wa_iconst (-1) ic_m1 E d_X12_tell_25 ?_
        refine wa_iconst 1 ic_1 E d_X12_tell_26 ?_
        obtain ⟨q_6, hq_6, h⟩ := kf_bd h
        refine wa_callS (st2 := [.int q_6.1]) (c_X12_in hty v3 (-1) 1 q_4.2 hq_6) mt_X12_in ml_X12_313 rfl (Nat.le_of_ble_eq_true rfl) rfl (Nat.le_of_ble_eq_true rfl) E d_X12_tell_27 rfl ?_
        refine wa_if_ne E d_X12_tell_30 (fun c_7 => ?_) (fun c_7 => ?_)
        · replace h := kf_iff c_7 h
          refine wa_aload_n 0 rfl E d_X12_tell_35 ?_
          refine wa_getR fl_X12_137 k_v0 rfl E d_X12_tell_36 ?_
          refine wa_aload_n 0 rfl E d_X12_tell_39 ?_
          refine wa_getI fl_X12_254 k_v0 rfl E d_X12_tell_40 ?_
          refine wa_iload_n 1 rfl E d_X12_tell_43 ?_
          obtain ⟨g_8, h⟩ := kf_gd h
          obtain ⟨σ_9, eσ_9, h⟩ := kf_lte h
          refine wa_iast (kf_wtf hty 61 49 k_v0 (by decide) rfl) g_8 E d_X12_tell_44 eσ_9 ?_
          refine wa_aload_n 0 rfl E d_X12_tell_45 ?_
          refine wa_getR fl_X12_140 k_v0 rfl E d_X12_tell_46 ?_
          refine wa_aload_n 0 rfl E d_X12_tell_49 ?_
          refine wa_getI fl_X12_254 k_v0 rfl E d_X12_tell_50 ?_
          refine wa_iload_n 2 rfl E d_X12_tell_53 ?_
          obtain ⟨g_10, h⟩ := kf_gd h
          obtain ⟨σ_11, eσ_11, h⟩ := kf_lte h
          refine wa_iast (kf_wtf hty 62 49 k_v0 (by decide) rfl) g_10 E d_X12_tell_54 eσ_11 ?_
          refine wa_aload_n 0 rfl E d_X12_tell_55 ?_
          refine wa_getR fl_X12_143 k_v0 rfl E d_X12_tell_56 ?_
          refine wa_aload_n 0 rfl E d_X12_tell_59 ?_
          refine wa_getI fl_X12_254 k_v0 rfl E d_X12_tell_60 ?_
          refine wa_iload_n 3 rfl E d_X12_tell_63 ?_
          obtain ⟨g_12, h⟩ := kf_gd h
          obtain ⟨σ_13, eσ_13, h⟩ := kf_lte h
          refine wa_iast (kf_wtf hty 63 49 k_v0 (by decide) rfl) g_12 E d_X12_tell_64 eσ_13 ?_
          refine wa_aload_n 0 rfl E d_X12_tell_65 ?_
          refine wa_dup rfl E d_X12_tell_66 ?_
          refine wa_getI fl_X12_254 k_v0 rfl E d_X12_tell_67 ?_
          refine wa_iconst 1 ic_1 E d_X12_tell_70 ?_
          refine wa_iadd E d_X12_tell_71 ?_
          obtain ⟨σ_14, eσ_14, h⟩ := kf_lte h
          refine wa_putI fl_X12_254 fp_12_60 k_v0 rfl (by decide) rfl rfl E d_X12_tell_72 eσ_14 ?_
          refine wa_aload_n 0 rfl E d_X12_tell_75 ?_
          refine wa_getI fl_X12_254 k_v0 rfl E d_X12_tell_76 ?_
          refine wa_iconst 1 ic_1 E d_X12_tell_79 ?_
          refine wa_isub E d_X12_tell_80 ?_
          cases h
          exact wa_iret E d_X12_tell_81
        · replace h := kf_ift c_7 h
          refine wa_iconst (-1) ic_m1 E d_X12_tell_33 ?_
          cases h
          exact wa_iret E d_X12_tell_34
/-! X12_forget -/
theorem d_X12_forget_0 : kf_dq cX12_forget 0 1 1 (.aload_n 0) := ⟨by decide +kernel, rfl⟩
theorem d_X12_forget_1 : kf_dq cX12_forget 1 4 3 (.getfield 254) := ⟨by decide +kernel, rfl⟩
theorem d_X12_forget_4 : kf_dq cX12_forget 4 5 1 (.istore_n 1) := ⟨by decide +kernel, rfl⟩
theorem d_X12_forget_5 : kf_dq cX12_forget 5 6 1 (.aload_n 0) := ⟨by decide +kernel, rfl⟩
theorem d_X12_forget_6 : kf_dq cX12_forget 6 7 1 (.iconst 0) := ⟨by decide +kernel, rfl⟩
theorem d_X12_forget_7 : kf_dq cX12_forget 7 10 3 (.putfield 254) := ⟨by decide +kernel, rfl⟩
theorem d_X12_forget_10 : kf_dq cX12_forget 10 11 1 (.iload_n 1) := ⟨by decide +kernel, rfl⟩
theorem d_X12_forget_11 : kf_dq cX12_forget 11 12 1 (.ireturn) := ⟨by decide +kernel, rfl⟩
def f_X12_forget (v0 : Nat) (σ : kf_St) : Option (Int32 × kf_St) :=
  kf_lt ((σ.1 v0 60)) fun v1_1 =>
  kf_lt (kf_wi σ v0 60 0) fun σ_2 =>
  some (v1_1, σ_2)
set_option maxRecDepth 100000 in
set_option maxHeartbeats 4000000 in
theorem c_X12_forget {G : kf_G} (hty : kf_wt G) (v0 : Nat) (k_v0 : kf_kd G v0 = 13) (σ : kf_St) {q : (Int32 × kf_St)} (h : f_X12_forget v0 σ = some q) : kf_Ct (1) yX12_forget cX12_forget 2 (some .int) G [.ref (kf_ad G v0)] σ (some (.int q.1)) q.2 := by
  refine kf_Ct.of hty.1 (lv := [(0, .ref (kf_ad G v0))]) (by decide +kernel) rfl (Nat.le_of_ble_eq_true rfl) (fun X E => ?_)
  unfold f_X12_forget at h
  refine wa_aload_n 0 rfl E d_X12_forget_0 ?_
  refine wa_getI fl_X12_254 k_v0 rfl E d_X12_forget_1 ?_
  obtain ⟨v1_1, ev1_1, h⟩ := kf_lte h
  refine wa_topi ev1_1 ?_
  refine wa_istore_n (lv' := [(1, .int v1_1), (0, .ref (kf_ad G v0))]) rfl (by decide) rfl E d_X12_forget_4 ?_
  refine wa_aload_n 1 rfl E d_X12_forget_5 ?_
  refine wa_iconst 0 ic_0 E d_X12_forget_6 ?_
  obtain ⟨σ_2, eσ_2, h⟩ := kf_lte h
  refine wa_putI fl_X12_254 fp_12_60 k_v0 rfl (by decide) rfl rfl E d_X12_forget_7 eσ_2 ?_
  refine wa_iload_n 0 rfl E d_X12_forget_10 ?_
  cases h
  exact wa_iret E d_X12_forget_11
/-! X12_wayOf -/
theorem d_X12_wayOf_0 : kf_dq cX12_wayOf 0 1 1 (.aload_n 0) := ⟨by decide +kernel, rfl⟩
theorem d_X12_wayOf_1 : kf_dq cX12_wayOf 1 2 1 (.iload_n 1) := ⟨by decide +kernel, rfl⟩
theorem d_X12_wayOf_2 : kf_dq cX12_wayOf 2 3 1 (.iload_n 3) := ⟨by decide +kernel, rfl⟩
theorem d_X12_wayOf_3 : kf_dq cX12_wayOf 3 4 1 (.iload_n 2) := ⟨by decide +kernel, rfl⟩
theorem d_X12_wayOf_4 : kf_dq cX12_wayOf 4 7 3 (.invokevirtual 363) := ⟨by decide +kernel, rfl⟩
theorem d_X12_wayOf_7 : kf_dj cX12_wayOf 7 10 12 (.ifCond .ne) := ⟨5, by decide +kernel, rfl, by decide⟩
theorem d_X12_wayOf_10 : kf_dq cX12_wayOf 10 11 1 (.iconst 0) := ⟨by decide +kernel, rfl⟩
theorem d_X12_wayOf_11 : kf_dq cX12_wayOf 11 12 1 (.ireturn) := ⟨by decide +kernel, rfl⟩
theorem d_X12_wayOf_12 : kf_dq cX12_wayOf 12 13 1 (.aload_n 0) := ⟨by decide +kernel, rfl⟩
theorem d_X12_wayOf_13 : kf_dq cX12_wayOf 13 14 1 (.iload_n 3) := ⟨by decide +kernel, rfl⟩
theorem d_X12_wayOf_14 : kf_dq cX12_wayOf 14 15 1 (.iload_n 2) := ⟨by decide +kernel, rfl⟩
theorem d_X12_wayOf_15 : kf_dq cX12_wayOf 15 18 3 (.invokevirtual 333) := ⟨by decide +kernel, rfl⟩
theorem d_X12_wayOf_18 : kf_dq cX12_wayOf 18 19 1 (.aload_n 0) := ⟨by decide +kernel, rfl⟩
theorem d_X12_wayOf_19 : kf_dq cX12_wayOf 19 22 3 (.getfield 122) := ⟨by decide +kernel, rfl⟩
theorem d_X12_wayOf_22 : kf_dq cX12_wayOf 22 23 1 (.iconst 4) := ⟨by decide +kernel, rfl⟩
theorem d_X12_wayOf_23 : kf_dq cX12_wayOf 23 24 1 (.iload_n 1) := ⟨by decide +kernel, rfl⟩
theorem d_X12_wayOf_24 : kf_dq cX12_wayOf 24 25 1 (.imul) := ⟨by decide +kernel, rfl⟩
theorem d_X12_wayOf_25 : kf_dq cX12_wayOf 25 26 1 (.iload_n 2) := ⟨by decide +kernel, rfl⟩
theorem d_X12_wayOf_26 : kf_dq cX12_wayOf 26 27 1 (.iadd) := ⟨by decide +kernel, rfl⟩
theorem d_X12_wayOf_27 : kf_dq cX12_wayOf 27 28 1 (.iaload) := ⟨by decide +kernel, rfl⟩
theorem d_X12_wayOf_28 : kf_dj cX12_wayOf 28 31 35 (.if_icmp .ge) := ⟨7, by decide +kernel, rfl, by decide⟩
theorem d_X12_wayOf_31 : kf_dq cX12_wayOf 31 32 1 (.iconst (-1)) := ⟨by decide +kernel, rfl⟩
theorem d_X12_wayOf_32 : kf_dj cX12_wayOf 32 35 36 .goto := ⟨4, by decide +kernel, rfl, by decide⟩
theorem d_X12_wayOf_35 : kf_dq cX12_wayOf 35 36 1 (.iconst 1) := ⟨by decide +kernel, rfl⟩
theorem d_X12_wayOf_36 : kf_dq cX12_wayOf 36 37 1 (.ireturn) := ⟨by decide +kernel, rfl⟩
def f_X12_wayOf (v0 : Nat) (v1 : Int32) (v2 : Int32) (v3 : Int32) (σ : kf_St) : Option (Int32 × kf_St) :=
  (f_X12_givesOf v0 v1 v3 v2 σ).bind fun q_1 =>
  if q_1.1 = 0 then
    some (0, q_1.2)
  else
    (f_X12_facePart v0 v3 v2 q_1.2).bind fun q_3 =>
    if kf_ix ((4 * v1) + v2) (kf_ln (kf_rf v0 52)) = true then
    if (q_3.2.1 (kf_rf v0 52) (Int32.toNatClampNeg ((4 * v1) + v2))) ≤ q_3.1 then
      some (1, q_3.2)
    else
      some ((-1), q_3.2)
    else none
set_option maxRecDepth 100000 in
set_option maxHeartbeats 4000000 in
theorem c_X12_wayOf {G : kf_G} (hty : kf_wt G) (v0 : Nat) (v1 : Int32) (v2 : Int32) (v3 : Int32) (k_v0 : kf_kd G v0 = 13) (σ : kf_St) {q : (Int32 × kf_St)} (h : f_X12_wayOf v0 v1 v2 v3 σ = some q) : kf_Ct (4) yX12_wayOf cX12_wayOf 4 (some .int) G [.ref (kf_ad G v0), .int v1, .int v2, .int v3] σ (some (.int q.1)) q.2 := by
  refine kf_Ct.of hty.1 (lv := [(0, .ref (kf_ad G v0)), (1, .int v1), (2, .int v2), (3, .int v3)]) (by decide +kernel) rfl (Nat.le_of_ble_eq_true rfl) (fun X E => ?_)
  unfold f_X12_wayOf at h
  refine wa_aload_n 0 rfl E d_X12_wayOf_0 ?_
  refine wa_iload_n 1 rfl E d_X12_wayOf_1 ?_
  refine wa_iload_n 3 rfl E d_X12_wayOf_2 ?_
  refine wa_iload_n 2 rfl E d_X12_wayOf_3 ?_
  obtain ⟨q_1, hq_1, h⟩ := kf_bd h
  refine wa_callV (st2 := [.int q_1.1]) (c_X12_givesOf hty v0 v1 v3 v2 k_v0 σ hq_1) mv_X12_givesOf ml_X12_363 k_v0 rfl (Nat.le_of_ble_eq_true rfl) rfl (Nat.le_of_ble_eq_true rfl) E d_X12_wayOf_4 rfl ?_
  refine wa_if_ne E d_X12_wayOf_7 (fun c_2 => ?_) (fun c_2 => ?_)
  · replace h := kf_iff c_2 h
    refine wa_aload_n 0 rfl E d_X12_wayOf_12 ?_
    refine wa_iload_n 3 rfl E d_X12_wayOf_13 ?_
    refine wa_iload_n 2 rfl E d_X12_wayOf_14 ?_
    obtain ⟨q_3, hq_3, h⟩ := kf_bd h
    refine wa_callV (st2 := [.int q_3.1]) (c_X12_facePart hty v0 v3 v2 k_v0 q_1.2 hq_3) mv_X12_facePart ml_X12_333 k_v0 rfl (Nat.le_of_ble_eq_true rfl) rfl (Nat.le_of_ble_eq_true rfl) E d_X12_wayOf_15 rfl ?_
    refine wa_aload_n 0 rfl E d_X12_wayOf_18 ?_
    refine wa_getR fl_X12_122 k_v0 rfl E d_X12_wayOf_19 ?_
    refine wa_iconst 4 ic_4 E d_X12_wayOf_22 ?_
    refine wa_iload_n 1 rfl E d_X12_wayOf_23 ?_
    refine wa_imul E d_X12_wayOf_24 ?_
    refine wa_iload_n 2 rfl E d_X12_wayOf_25 ?_
    refine wa_iadd E d_X12_wayOf_26 ?_
    obtain ⟨g_4, h⟩ := kf_gd h
    refine wa_iald (kf_wtf hty 52 49 k_v0 (by decide) rfl) g_4 E d_X12_wayOf_27 ?_
    refine wa_icmp_ge E d_X12_wayOf_28 (fun c_5 => ?_) (fun c_5 => ?_)
    · replace h := kf_ift c_5 h
      refine wa_iconst 1 ic_1 E d_X12_wayOf_35 ?_
      cases h
      exact wa_iret E d_X12_wayOf_36
    · replace h := kf_iff c_5 h
      refine wa_iconst (-1) ic_m1 E d_X12_wayOf_31 ?_
      refine wa_goto E d_X12_wayOf_32 ?_
      cases h
      exact wa_iret E d_X12_wayOf_36
  · replace h := kf_ift c_2 h
    refine wa_iconst 0 ic_0 E d_X12_wayOf_10 ?_
    cases h
    exact wa_iret E d_X12_wayOf_11
/-! X12_whoBits -/
theorem d_X12_whoBits_0 : kf_dq cX12_whoBits 0 1 1 (.aload_n 0) := ⟨by decide +kernel, rfl⟩
theorem d_X12_whoBits_1 : kf_dq cX12_whoBits 1 4 3 (.invokevirtual 323) := ⟨by decide +kernel, rfl⟩
theorem d_X12_whoBits_4 : kf_dq cX12_whoBits 4 5 1 (.iconst 0) := ⟨by decide +kernel, rfl⟩
theorem d_X12_whoBits_5 : kf_dq cX12_whoBits 5 6 1 (.istore_n 2) := ⟨by decide +kernel, rfl⟩
theorem d_X12_whoBits_6 : kf_dq cX12_whoBits 6 7 1 (.iconst 0) := ⟨by decide +kernel, rfl⟩
theorem d_X12_whoBits_7 : kf_dq cX12_whoBits 7 8 1 (.istore_n 3) := ⟨by decide +kernel, rfl⟩
theorem d_X12_whoBits_8 : kf_dq cX12_whoBits 8 9 1 (.iload_n 3) := ⟨by decide +kernel, rfl⟩
theorem d_X12_whoBits_9 : kf_dq cX12_whoBits 9 10 1 (.aload_n 0) := ⟨by decide +kernel, rfl⟩
theorem d_X12_whoBits_10 : kf_dq cX12_whoBits 10 13 3 (.getfield 52) := ⟨by decide +kernel, rfl⟩
theorem d_X12_whoBits_13 : kf_dq cX12_whoBits 13 14 1 (.aload_n 0) := ⟨by decide +kernel, rfl⟩
theorem d_X12_whoBits_14 : kf_dq cX12_whoBits 14 17 3 (.getfield 233) := ⟨by decide +kernel, rfl⟩
theorem d_X12_whoBits_17 : kf_dq cX12_whoBits 17 18 1 (.iaload) := ⟨by decide +kernel, rfl⟩
theorem d_X12_whoBits_18 : kf_dj cX12_whoBits 18 21 88 (.if_icmp .ge) := ⟨70, by decide +kernel, rfl, by decide⟩
theorem d_X12_whoBits_21 : kf_dq cX12_whoBits 21 22 1 (.iconst 1) := ⟨by decide +kernel, rfl⟩
theorem d_X12_whoBits_22 : kf_dq cX12_whoBits 22 24 2 (.istore 4) := ⟨by decide +kernel, rfl⟩
theorem d_X12_whoBits_24 : kf_dq cX12_whoBits 24 25 1 (.iconst 0) := ⟨by decide +kernel, rfl⟩
theorem d_X12_whoBits_25 : kf_dq cX12_whoBits 25 27 2 (.istore 5) := ⟨by decide +kernel, rfl⟩
theorem d_X12_whoBits_27 : kf_dq cX12_whoBits 27 29 2 (.iload 5) := ⟨by decide +kernel, rfl⟩
theorem d_X12_whoBits_29 : kf_dq cX12_whoBits 29 30 1 (.iload_n 1) := ⟨by decide +kernel, rfl⟩
theorem d_X12_whoBits_30 : kf_dj cX12_whoBits 30 33 71 (.if_icmp .ge) := ⟨41, by decide +kernel, rfl, by decide⟩
theorem d_X12_whoBits_33 : kf_dq cX12_whoBits 33 34 1 (.aload_n 0) := ⟨by decide +kernel, rfl⟩
theorem d_X12_whoBits_34 : kf_dq cX12_whoBits 34 35 1 (.aload_n 0) := ⟨by decide +kernel, rfl⟩
theorem d_X12_whoBits_35 : kf_dq cX12_whoBits 35 38 3 (.getfield 137) := ⟨by decide +kernel, rfl⟩
theorem d_X12_whoBits_38 : kf_dq cX12_whoBits 38 40 2 (.iload 5) := ⟨by decide +kernel, rfl⟩
theorem d_X12_whoBits_40 : kf_dq cX12_whoBits 40 41 1 (.iaload) := ⟨by decide +kernel, rfl⟩
theorem d_X12_whoBits_41 : kf_dq cX12_whoBits 41 42 1 (.aload_n 0) := ⟨by decide +kernel, rfl⟩
theorem d_X12_whoBits_42 : kf_dq cX12_whoBits 42 45 3 (.getfield 140) := ⟨by decide +kernel, rfl⟩
theorem d_X12_whoBits_45 : kf_dq cX12_whoBits 45 47 2 (.iload 5) := ⟨by decide +kernel, rfl⟩
theorem d_X12_whoBits_47 : kf_dq cX12_whoBits 47 48 1 (.iaload) := ⟨by decide +kernel, rfl⟩
theorem d_X12_whoBits_48 : kf_dq cX12_whoBits 48 49 1 (.iload_n 3) := ⟨by decide +kernel, rfl⟩
theorem d_X12_whoBits_49 : kf_dq cX12_whoBits 49 52 3 (.invokevirtual 451) := ⟨by decide +kernel, rfl⟩
theorem d_X12_whoBits_52 : kf_dq cX12_whoBits 52 53 1 (.aload_n 0) := ⟨by decide +kernel, rfl⟩
theorem d_X12_whoBits_53 : kf_dq cX12_whoBits 53 56 3 (.getfield 143) := ⟨by decide +kernel, rfl⟩
theorem d_X12_whoBits_56 : kf_dq cX12_whoBits 56 58 2 (.iload 5) := ⟨by decide +kernel, rfl⟩
theorem d_X12_whoBits_58 : kf_dq cX12_whoBits 58 59 1 (.iaload) := ⟨by decide +kernel, rfl⟩
theorem d_X12_whoBits_59 : kf_dj cX12_whoBits 59 62 65 (.if_icmp .eq) := ⟨6, by decide +kernel, rfl, by decide⟩
theorem d_X12_whoBits_62 : kf_dq cX12_whoBits 62 63 1 (.iconst 0) := ⟨by decide +kernel, rfl⟩
theorem d_X12_whoBits_63 : kf_dq cX12_whoBits 63 65 2 (.istore 4) := ⟨by decide +kernel, rfl⟩
theorem d_X12_whoBits_65 : kf_dq cX12_whoBits 65 68 3 (.iinc 5 1) := ⟨by decide +kernel, rfl⟩
theorem d_X12_whoBits_68 : kf_dj cX12_whoBits 68 71 27 .goto := ⟨(-41), by decide +kernel, rfl, by decide⟩
theorem d_X12_whoBits_71 : kf_dq cX12_whoBits 71 73 2 (.iload 4) := ⟨by decide +kernel, rfl⟩
theorem d_X12_whoBits_73 : kf_dj cX12_whoBits 73 76 82 (.ifCond .eq) := ⟨9, by decide +kernel, rfl, by decide⟩
theorem d_X12_whoBits_76 : kf_dq cX12_whoBits 76 77 1 (.iload_n 2) := ⟨by decide +kernel, rfl⟩
theorem d_X12_whoBits_77 : kf_dq cX12_whoBits 77 78 1 (.iconst 1) := ⟨by decide +kernel, rfl⟩
theorem d_X12_whoBits_78 : kf_dq cX12_whoBits 78 79 1 (.iload_n 3) := ⟨by decide +kernel, rfl⟩
theorem d_X12_whoBits_79 : kf_dq cX12_whoBits 79 80 1 (.ishl) := ⟨by decide +kernel, rfl⟩
theorem d_X12_whoBits_80 : kf_dq cX12_whoBits 80 81 1 (.ior) := ⟨by decide +kernel, rfl⟩
theorem d_X12_whoBits_81 : kf_dq cX12_whoBits 81 82 1 (.istore_n 2) := ⟨by decide +kernel, rfl⟩
theorem d_X12_whoBits_82 : kf_dq cX12_whoBits 82 85 3 (.iinc 3 1) := ⟨by decide +kernel, rfl⟩
theorem d_X12_whoBits_85 : kf_dj cX12_whoBits 85 88 8 .goto := ⟨(-77), by decide +kernel, rfl, by decide⟩
theorem d_X12_whoBits_88 : kf_dq cX12_whoBits 88 89 1 (.iload_n 2) := ⟨by decide +kernel, rfl⟩
theorem d_X12_whoBits_89 : kf_dq cX12_whoBits 89 90 1 (.ireturn) := ⟨by decide +kernel, rfl⟩
def f_X12_whoBits_82 (rec8 : Nat → Int32 → Int32 → Int32 → kf_St → Option (Int32 × kf_St)) (v0 : Nat) (v1 : Int32) (v2 : Int32) (v3 : Int32) (σ : kf_St) : Option (Int32 × kf_St) :=
  kf_lt (v3 + 1) fun v3_1 =>
  rec8 v0 v1 v2 v3_1 σ
set_option maxRecDepth 100000 in
set_option maxHeartbeats 4000000 in
theorem b_X12_whoBits_82 {X : kf_X} {G : kf_G} {rec8 : Nat → Int32 → Int32 → Int32 → kf_St → Option (Int32 × kf_St)} {q : (Int32 × kf_St)} (E : kf_ok X G cX12_whoBits RX12 6 (some .int) (5)) (hty : kf_wt G) (hrec8 : ∀ (v0 : Nat) (v1 : Int32) (v2 : Int32) (v3 : Int32) (k_v0 : kf_kd G v0 = 13) (σ : kf_St), rec8 v0 v1 v2 v3 σ = some q → kf_WA X G 6 (kf_Q X G (some (.int q.1)) q.2) 8 [(0, .ref (kf_ad G v0)), (1, .int v1), (2, .int v2), (3, .int v3)] [] σ) (v0 : Nat) (v1 : Int32) (v2 : Int32) (v3 : Int32) (k_v0 : kf_kd G v0 = 13) (σ : kf_St) (h : f_X12_whoBits_82 rec8 v0 v1 v2 v3 σ = some q) : kf_WA X G 6 (kf_Q X G (some (.int q.1)) q.2) 82 [(0, .ref (kf_ad G v0)), (1, .int v1), (2, .int v2), (3, .int v3)] [] σ := by
  unfold f_X12_whoBits_82 at h
  obtain ⟨v3_1, ev3_1, h⟩ := kf_lte h
  refine wa_iinc (lv' := [(3, .int v3_1), (0, .ref (kf_ad G v0)), (1, .int v1), (2, .int v2)]) v3_1 3 rfl (kf_inc ic_1 ev3_1) (by decide) rfl E d_X12_whoBits_82 ?_
  refine wa_goto E d_X12_whoBits_85 ?_
  refine wa_sub [1, 2, 3, 0] rfl ?_
  exact hrec8 v0 v1 v2 v3_1 k_v0 σ h
def f_X12_whoBits_65 (rec8 : Nat → Int32 → Int32 → Int32 → kf_St → Option (Int32 × kf_St)) (rec27 : Nat → Int32 → Int32 → Int32 → Int32 → Int32 → kf_St → Option (Int32 × kf_St)) (v0 : Nat) (v1 : Int32) (v2 : Int32) (v3 : Int32) (v4 : Int32) (v5 : Int32) (σ : kf_St) : Option (Int32 × kf_St) :=
  kf_lt (v5 + 1) fun v5_1 =>
  rec27 v0 v1 v2 v3 v4 v5_1 σ
set_option maxRecDepth 100000 in
set_option maxHeartbeats 4000000 in
theorem b_X12_whoBits_65 {X : kf_X} {G : kf_G} {rec8 : Nat → Int32 → Int32 → Int32 → kf_St → Option (Int32 × kf_St)} {rec27 : Nat → Int32 → Int32 → Int32 → Int32 → Int32 → kf_St → Option (Int32 × kf_St)} {q : (Int32 × kf_St)} (E : kf_ok X G cX12_whoBits RX12 6 (some .int) (5)) (hty : kf_wt G) (hrec8 : ∀ (v0 : Nat) (v1 : Int32) (v2 : Int32) (v3 : Int32) (k_v0 : kf_kd G v0 = 13) (σ : kf_St), rec8 v0 v1 v2 v3 σ = some q → kf_WA X G 6 (kf_Q X G (some (.int q.1)) q.2) 8 [(0, .ref (kf_ad G v0)), (1, .int v1), (2, .int v2), (3, .int v3)] [] σ) (hrec27 : ∀ (v0 : Nat) (v1 : Int32) (v2 : Int32) (v3 : Int32) (v4 : Int32) (v5 : Int32) (k_v0 : kf_kd G v0 = 13) (σ : kf_St), rec27 v0 v1 v2 v3 v4 v5 σ = some q → kf_WA X G 6 (kf_Q X G (some (.int q.1)) q.2) 27 [(0, .ref (kf_ad G v0)), (1, .int v1), (2, .int v2), (3, .int v3), (4, .int v4), (5, .int v5)] [] σ) (v0 : Nat) (v1 : Int32) (v2 : Int32) (v3 : Int32) (v4 : Int32) (v5 : Int32) (k_v0 : kf_kd G v0 = 13) (σ : kf_St) (h : f_X12_whoBits_65 rec8 rec27 v0 v1 v2 v3 v4 v5 σ = some q) : kf_WA X G 6 (kf_Q X G (some (.int q.1)) q.2) 65 [(0, .ref (kf_ad G v0)), (1, .int v1), (2, .int v2), (3, .int v3), (4, .int v4), (5, .int v5)] [] σ := by
  unfold f_X12_whoBits_65 at h
  obtain ⟨v5_1, ev5_1, h⟩ := kf_lte h
  refine wa_iinc (lv' := [(5, .int v5_1), (0, .ref (kf_ad G v0)), (1, .int v1), (2, .int v2), (3, .int v3), (4, .int v4)]) v5_1 5 rfl (kf_inc ic_1 ev5_1) (by decide) rfl E d_X12_whoBits_65 ?_
  refine wa_goto E d_X12_whoBits_68 ?_
  refine wa_sub [1, 2, 3, 4, 5, 0] rfl ?_
  exact hrec27 v0 v1 v2 v3 v4 v5_1 k_v0 σ h
def f_X12_whoBits_27_s (rec8 : Nat → Int32 → Int32 → Int32 → kf_St → Option (Int32 × kf_St)) (rec27 : Nat → Int32 → Int32 → Int32 → Int32 → Int32 → kf_St → Option (Int32 × kf_St)) (v0 : Nat) (v1 : Int32) (v2 : Int32) (v3 : Int32) (v4 : Int32) (v5 : Int32) (σ : kf_St) : Option (Int32 × kf_St) :=
  if v1 ≤ v5 then
    if v4 = 0 then
      f_X12_whoBits_82 rec8 v0 v1 v2 v3 σ
    else
      kf_lt ((v2 ||| ((1 : Int32) <<< (v3 &&& 31)))) fun v2_3 =>
      f_X12_whoBits_82 rec8 v0 v1 v2_3 v3 σ
  else
    if kf_ix v5 (kf_ln (kf_rf v0 61)) = true then
    if kf_ix v5 (kf_ln (kf_rf v0 62)) = true then
    (f_X12_wayOf v0 (σ.1 (kf_rf v0 61) (Int32.toNatClampNeg v5)) (σ.1 (kf_rf v0 62) (Int32.toNatClampNeg v5)) v3 σ).bind fun q_6 =>
    if kf_ix v5 (kf_ln (kf_rf v0 63)) = true then
    if q_6.1 = (q_6.2.1 (kf_rf v0 63) (Int32.toNatClampNeg v5)) then
      f_X12_whoBits_65 rec8 rec27 v0 v1 v2 v3 v4 v5 q_6.2
    else
      f_X12_whoBits_65 rec8 rec27 v0 v1 v2 v3 0 v5 q_6.2
    else none
    else none
    else none
def f_X12_whoBits_27 (rec8 : Nat → Int32 → Int32 → Int32 → kf_St → Option (Int32 × kf_St)) : Nat → Nat → Int32 → Int32 → Int32 → Int32 → Int32 → kf_St → Option (Int32 × kf_St)
  | 0, _, _, _, _, _, _, _ => none
  | n + 1, v0, v1, v2, v3, v4, v5, σ => f_X12_whoBits_27_s rec8 (f_X12_whoBits_27 rec8 n) v0 v1 v2 v3 v4 v5 σ
set_option maxRecDepth 100000 in
set_option maxHeartbeats 4000000 in
theorem b_X12_whoBits_27_s {X : kf_X} {G : kf_G} {rec8 : Nat → Int32 → Int32 → Int32 → kf_St → Option (Int32 × kf_St)} (rec27 : Nat → Int32 → Int32 → Int32 → Int32 → Int32 → kf_St → Option (Int32 × kf_St)) {q : (Int32 × kf_St)} (E : kf_ok X G cX12_whoBits RX12 6 (some .int) (5)) (hty : kf_wt G) (hrec8 : ∀ (v0 : Nat) (v1 : Int32) (v2 : Int32) (v3 : Int32) (k_v0 : kf_kd G v0 = 13) (σ : kf_St), rec8 v0 v1 v2 v3 σ = some q → kf_WA X G 6 (kf_Q X G (some (.int q.1)) q.2) 8 [(0, .ref (kf_ad G v0)), (1, .int v1), (2, .int v2), (3, .int v3)] [] σ) (hrec27 : ∀ (v0 : Nat) (v1 : Int32) (v2 : Int32) (v3 : Int32) (v4 : Int32) (v5 : Int32) (k_v0 : kf_kd G v0 = 13) (σ : kf_St), rec27 v0 v1 v2 v3 v4 v5 σ = some q → kf_WA X G 6 (kf_Q X G (some (.int q.1)) q.2) 27 [(0, .ref (kf_ad G v0)), (1, .int v1), (2, .int v2), (3, .int v3), (4, .int v4), (5, .int v5)] [] σ) (v0 : Nat) (v1 : Int32) (v2 : Int32) (v3 : Int32) (v4 : Int32) (v5 : Int32) (k_v0 : kf_kd G v0 = 13) (σ : kf_St) (h : f_X12_whoBits_27_s rec8 rec27 v0 v1 v2 v3 v4 v5 σ = some q) : kf_WA X G 6 (kf_Q X G (some (.int q.1)) q.2) 27 [(0, .ref (kf_ad G v0)), (1, .int v1), (2, .int v2), (3, .int v3), (4, .int v4), (5, .int v5)] [] σ := by
  unfold f_X12_whoBits_27_s at h
  refine wa_iload 5 rfl E d_X12_whoBits_27 ?_
  refine wa_iload_n 1 rfl E d_X12_whoBits_29 ?_
  refine wa_icmp_ge E d_X12_whoBits_30 (fun c_1 => ?_) (fun c_1 => ?_)
  · replace h := kf_ift c_1 h
    refine wa_iload 4 rfl E d_X12_whoBits_71 ?_
    refine wa_if_eq E d_X12_whoBits_73 (fun c_2 => ?_) (fun c_2 => ?_)
    · replace h := kf_ift c_2 h
      refine wa_sub [0, 1, 2, 3] rfl ?_
      exact b_X12_whoBits_82 E hty hrec8 v0 v1 v2 v3 k_v0 σ h
    · replace h := kf_iff c_2 h
      refine wa_iload_n 2 rfl E d_X12_whoBits_76 ?_
      refine wa_iconst 1 ic_1 E d_X12_whoBits_77 ?_
      refine wa_iload_n 3 rfl E d_X12_whoBits_78 ?_
      refine wa_ishl E d_X12_whoBits_79 ?_
      refine wa_ior E d_X12_whoBits_80 ?_
      obtain ⟨v2_3, ev2_3, h⟩ := kf_lte h
      refine wa_topi ev2_3 ?_
      refine wa_istore_n (lv' := [(2, .int v2_3), (0, .ref (kf_ad G v0)), (1, .int v1), (3, .int v3), (4, .int v4), (5, .int v5)]) rfl (by decide) rfl E d_X12_whoBits_81 ?_
      refine wa_sub [1, 2, 0, 3] rfl ?_
      exact b_X12_whoBits_82 E hty hrec8 v0 v1 v2_3 v3 k_v0 σ h
  · replace h := kf_iff c_1 h
    refine wa_aload_n 0 rfl E d_X12_whoBits_33 ?_
    refine wa_aload_n 0 rfl E d_X12_whoBits_34 ?_
    refine wa_getR fl_X12_137 k_v0 rfl E d_X12_whoBits_35 ?_
    refine wa_iload 5 rfl E d_X12_whoBits_38 ?_
    obtain ⟨g_4, h⟩ := kf_gd h
    refine wa_iald (kf_wtf hty 61 49 k_v0 (by decide) rfl) g_4 E d_X12_whoBits_40 ?_
    refine wa_aload_n 0 rfl E d_X12_whoBits_41 ?_
    refine wa_getR fl_X12_140 k_v0 rfl E d_X12_whoBits_42 ?_
    refine wa_iload 5 rfl E d_X12_whoBits_45 ?_
    obtain ⟨g_5, h⟩ := kf_gd h
    refine wa_iald (kf_wtf hty 62 49 k_v0 (by decide) rfl) g_5 E d_X12_whoBits_47 ?_
    refine wa_iload_n 3 rfl E d_X12_whoBits_48 ?_
    obtain ⟨q_6, hq_6, h⟩ := kf_bd h
    refine wa_callV (st2 := [.int q_6.1]) (c_X12_wayOf hty v0 (σ.1 (kf_rf v0 61) (Int32.toNatClampNeg v5)) (σ.1 (kf_rf v0 62) (Int32.toNatClampNeg v5)) v3 k_v0 σ hq_6) mv_X12_wayOf ml_X12_451 k_v0 rfl (Nat.le_of_ble_eq_true rfl) rfl (Nat.le_of_ble_eq_true rfl) E d_X12_whoBits_49 rfl ?_
    refine wa_aload_n 0 rfl E d_X12_whoBits_52 ?_
    refine wa_getR fl_X12_143 k_v0 rfl E d_X12_whoBits_53 ?_
    refine wa_iload 5 rfl E d_X12_whoBits_56 ?_
    obtain ⟨g_7, h⟩ := kf_gd h
    refine wa_iald (kf_wtf hty 63 49 k_v0 (by decide) rfl) g_7 E d_X12_whoBits_58 ?_
    refine wa_icmp_eq E d_X12_whoBits_59 (fun c_8 => ?_) (fun c_8 => ?_)
    · replace h := kf_ift c_8 h
      exact b_X12_whoBits_65 E hty hrec8 hrec27 v0 v1 v2 v3 v4 v5 k_v0 q_6.2 h
    · replace h := kf_iff c_8 h
      refine wa_iconst 0 ic_0 E d_X12_whoBits_62 ?_
      refine wa_istore (lv' := [(4, .int 0), (0, .ref (kf_ad G v0)), (1, .int v1), (2, .int v2), (3, .int v3), (5, .int v5)]) (by decide) rfl E d_X12_whoBits_63 ?_
      refine wa_sub [1, 2, 3, 4, 0, 5] rfl ?_
      exact b_X12_whoBits_65 E hty hrec8 hrec27 v0 v1 v2 v3 0 v5 k_v0 q_6.2 h
theorem b_X12_whoBits_27 {X : kf_X} {G : kf_G} {rec8 : Nat → Int32 → Int32 → Int32 → kf_St → Option (Int32 × kf_St)} {q : (Int32 × kf_St)} (E : kf_ok X G cX12_whoBits RX12 6 (some .int) (5)) (hty : kf_wt G) (hrec8 : ∀ (v0 : Nat) (v1 : Int32) (v2 : Int32) (v3 : Int32) (k_v0 : kf_kd G v0 = 13) (σ : kf_St), rec8 v0 v1 v2 v3 σ = some q → kf_WA X G 6 (kf_Q X G (some (.int q.1)) q.2) 8 [(0, .ref (kf_ad G v0)), (1, .int v1), (2, .int v2), (3, .int v3)] [] σ) : ∀ (N : Nat) (v0 : Nat) (v1 : Int32) (v2 : Int32) (v3 : Int32) (v4 : Int32) (v5 : Int32) (k_v0 : kf_kd G v0 = 13) (σ : kf_St) (_ : f_X12_whoBits_27 rec8 N v0 v1 v2 v3 v4 v5 σ = some q), kf_WA X G 6 (kf_Q X G (some (.int q.1)) q.2) 27 [(0, .ref (kf_ad G v0)), (1, .int v1), (2, .int v2), (3, .int v3), (4, .int v4), (5, .int v5)] [] σ
  | 0, _, _, _, _, _, _, _, _, h => by cases h
  | N + 1, v0, v1, v2, v3, v4, v5, k_v0, σ, h => b_X12_whoBits_27_s _ E hty hrec8 (b_X12_whoBits_27 E hty hrec8 N) v0 v1 v2 v3 v4 v5 k_v0 σ h
def f_X12_whoBits_8_s (rec8 : Nat → Int32 → Int32 → Int32 → kf_St → Option (Int32 × kf_St)) (v0 : Nat) (v1 : Int32) (v2 : Int32) (v3 : Int32) (σ : kf_St) : Option (Int32 × kf_St) :=
  if kf_ix (σ.1 v0 18) (kf_ln (kf_rf v0 25)) = true then
  if (σ.1 (kf_rf v0 25) (Int32.toNatClampNeg (σ.1 v0 18))) ≤ v3 then
    some (v2, σ)
  else
    f_X12_whoBits_27 rec8 kf_F v0 v1 v2 v3 1 0 σ
  else none
def f_X12_whoBits_8 : Nat → Nat → Int32 → Int32 → Int32 → kf_St → Option (Int32 × kf_St)
  | 0, _, _, _, _, _ => none
  | n + 1, v0, v1, v2, v3, σ => f_X12_whoBits_8_s (f_X12_whoBits_8 n) v0 v1 v2 v3 σ
set_option maxRecDepth 100000 in
set_option maxHeartbeats 4000000 in
theorem b_X12_whoBits_8_s {X : kf_X} {G : kf_G} (rec8 : Nat → Int32 → Int32 → Int32 → kf_St → Option (Int32 × kf_St)) {q : (Int32 × kf_St)} (E : kf_ok X G cX12_whoBits RX12 6 (some .int) (5)) (hty : kf_wt G) (hrec8 : ∀ (v0 : Nat) (v1 : Int32) (v2 : Int32) (v3 : Int32) (k_v0 : kf_kd G v0 = 13) (σ : kf_St), rec8 v0 v1 v2 v3 σ = some q → kf_WA X G 6 (kf_Q X G (some (.int q.1)) q.2) 8 [(0, .ref (kf_ad G v0)), (1, .int v1), (2, .int v2), (3, .int v3)] [] σ) (v0 : Nat) (v1 : Int32) (v2 : Int32) (v3 : Int32) (k_v0 : kf_kd G v0 = 13) (σ : kf_St) (h : f_X12_whoBits_8_s rec8 v0 v1 v2 v3 σ = some q) : kf_WA X G 6 (kf_Q X G (some (.int q.1)) q.2) 8 [(0, .ref (kf_ad G v0)), (1, .int v1), (2, .int v2), (3, .int v3)] [] σ := by
  unfold f_X12_whoBits_8_s at h
  refine wa_iload_n 3 rfl E d_X12_whoBits_8 ?_
  refine wa_aload_n 0 rfl E d_X12_whoBits_9 ?_
  refine wa_getR fl_X12_52 k_v0 rfl E d_X12_whoBits_10 ?_
  refine wa_aload_n 0 rfl E d_X12_whoBits_13 ?_
  refine wa_getI fl_X12_233 k_v0 rfl E d_X12_whoBits_14 ?_
  obtain ⟨g_1, h⟩ := kf_gd h
  refine wa_iald (kf_wtf hty 25 49 k_v0 (by decide) rfl) g_1 E d_X12_whoBits_17 ?_
  refine wa_icmp_ge E d_X12_whoBits_18 (fun c_2 => ?_) (fun c_2 => ?_)
  · replace h := kf_ift c_2 h
    refine wa_iload_n 2 rfl E d_X12_whoBits_88 ?_
    cases h
    exact wa_iret E d_X12_whoBits_89
  · replace h := kf_iff c_2 h
    refine wa_iconst 1 ic_1 E d_X12_whoBits_21 ?_
    refine wa_istore (lv' := [(4, .int 1), (0, .ref (kf_ad G v0)), (1, .int v1), (2, .int v2), (3, .int v3)]) (by decide) rfl E d_X12_whoBits_22 ?_
    refine wa_iconst 0 ic_0 E d_X12_whoBits_24 ?_
    refine wa_istore (lv' := [(5, .int 0), (4, .int 1), (0, .ref (kf_ad G v0)), (1, .int v1), (2, .int v2), (3, .int v3)]) (by decide) rfl E d_X12_whoBits_25 ?_
    refine wa_sub [2, 3, 4, 5, 1, 0] rfl ?_
    exact b_X12_whoBits_27 E hty hrec8 kf_F v0 v1 v2 v3 1 0 k_v0 σ h
theorem b_X12_whoBits_8 {X : kf_X} {G : kf_G} {q : (Int32 × kf_St)} (E : kf_ok X G cX12_whoBits RX12 6 (some .int) (5)) (hty : kf_wt G) : ∀ (N : Nat) (v0 : Nat) (v1 : Int32) (v2 : Int32) (v3 : Int32) (k_v0 : kf_kd G v0 = 13) (σ : kf_St) (_ : f_X12_whoBits_8 N v0 v1 v2 v3 σ = some q), kf_WA X G 6 (kf_Q X G (some (.int q.1)) q.2) 8 [(0, .ref (kf_ad G v0)), (1, .int v1), (2, .int v2), (3, .int v3)] [] σ
  | 0, _, _, _, _, _, _, h => by cases h
  | N + 1, v0, v1, v2, v3, k_v0, σ, h => b_X12_whoBits_8_s _ E hty (b_X12_whoBits_8 E hty N) v0 v1 v2 v3 k_v0 σ h
def f_X12_whoBits (v0 : Nat) (v1 : Int32) (σ : kf_St) : Option (Int32 × kf_St) :=
  (f_X12_copies v0 σ).bind fun q_1 =>
  f_X12_whoBits_8 kf_F v0 v1 0 0 q_1
set_option maxRecDepth 100000 in
set_option maxHeartbeats 4000000 in
theorem c_X12_whoBits {G : kf_G} (hty : kf_wt G) (v0 : Nat) (v1 : Int32) (k_v0 : kf_kd G v0 = 13) (σ : kf_St) {q : (Int32 × kf_St)} (h : f_X12_whoBits v0 v1 σ = some q) : kf_Ct (5) yX12_whoBits cX12_whoBits 6 (some .int) G [.ref (kf_ad G v0), .int v1] σ (some (.int q.1)) q.2 := by
  refine kf_Ct.of hty.1 (lv := [(0, .ref (kf_ad G v0)), (1, .int v1)]) (by decide +kernel) rfl (Nat.le_of_ble_eq_true rfl) (fun X E => ?_)
  unfold f_X12_whoBits at h
  refine wa_aload_n 0 rfl E d_X12_whoBits_0 ?_
  obtain ⟨q_1, hq_1, h⟩ := kf_bd h
  refine wa_callV (st2 := []) (c_X12_copies hty v0 k_v0 σ hq_1) mv_X12_copies ml_X12_323 k_v0 rfl (Nat.le_of_ble_eq_true rfl) rfl (Nat.le_of_ble_eq_true rfl) E d_X12_whoBits_1 rfl ?_
  refine wa_iconst 0 ic_0 E d_X12_whoBits_4 ?_
  refine wa_istore_n (lv' := [(2, .int 0), (0, .ref (kf_ad G v0)), (1, .int v1)]) rfl (by decide) rfl E d_X12_whoBits_5 ?_
  refine wa_iconst 0 ic_0 E d_X12_whoBits_6 ?_
  refine wa_istore_n (lv' := [(3, .int 0), (2, .int 0), (0, .ref (kf_ad G v0)), (1, .int v1)]) rfl (by decide) rfl E d_X12_whoBits_7 ?_
  refine wa_sub [2, 3, 1, 0] rfl ?_
  exact b_X12_whoBits_8 E hty kf_F v0 v1 0 0 k_v0 q_1 h
/-! X12_who -/
theorem d_X12_who_0 : kf_dq cX12_who 0 1 1 (.iload_n 1) := ⟨by decide +kernel, rfl⟩
theorem d_X12_who_1 : kf_dq cX12_who 1 2 1 (.iconst 0) := ⟨by decide +kernel, rfl⟩
theorem d_X12_who_2 : kf_dq cX12_who 2 3 1 (.aload_n 0) := ⟨by decide +kernel, rfl⟩
theorem d_X12_who_3 : kf_dq cX12_who 3 6 3 (.getfield 254) := ⟨by decide +kernel, rfl⟩
theorem d_X12_who_6 : kf_dq cX12_who 6 9 3 (.invokestatic 313) := ⟨by decide +kernel, rfl⟩
theorem d_X12_who_9 : kf_dj cX12_who 9 12 21 (.ifCond .eq) := ⟨12, by decide +kernel, rfl, by decide⟩
theorem d_X12_who_12 : kf_dq cX12_who 12 13 1 (.iload_n 2) := ⟨by decide +kernel, rfl⟩
theorem d_X12_who_13 : kf_dq cX12_who 13 14 1 (.iconst 0) := ⟨by decide +kernel, rfl⟩
theorem d_X12_who_14 : kf_dq cX12_who 14 15 1 (.iconst 1) := ⟨by decide +kernel, rfl⟩
theorem d_X12_who_15 : kf_dq cX12_who 15 18 3 (.invokestatic 313) := ⟨by decide +kernel, rfl⟩
theorem d_X12_who_18 : kf_dj cX12_who 18 21 23 (.ifCond .ne) := ⟨5, by decide +kernel, rfl, by decide⟩
theorem d_X12_who_21 : kf_dq cX12_who 21 22 1 (.iconst (-1)) := ⟨by decide +kernel, rfl⟩
theorem d_X12_who_22 : kf_dq cX12_who 22 23 1 (.ireturn) := ⟨by decide +kernel, rfl⟩
theorem d_X12_who_23 : kf_dq cX12_who 23 24 1 (.aload_n 0) := ⟨by decide +kernel, rfl⟩
theorem d_X12_who_24 : kf_dq cX12_who 24 25 1 (.iload_n 1) := ⟨by decide +kernel, rfl⟩
theorem d_X12_who_25 : kf_dq cX12_who 25 28 3 (.invokevirtual 454) := ⟨by decide +kernel, rfl⟩
theorem d_X12_who_28 : kf_dq cX12_who 28 29 1 (.istore_n 3) := ⟨by decide +kernel, rfl⟩
theorem d_X12_who_29 : kf_dq cX12_who 29 30 1 (.iload_n 2) := ⟨by decide +kernel, rfl⟩
theorem d_X12_who_30 : kf_dj cX12_who 30 33 40 (.ifCond .ne) := ⟨10, by decide +kernel, rfl, by decide⟩
theorem d_X12_who_33 : kf_dq cX12_who 33 34 1 (.iload_n 3) := ⟨by decide +kernel, rfl⟩
theorem d_X12_who_34 : kf_dq cX12_who 34 37 3 (.invokestatic 457) := ⟨by decide +kernel, rfl⟩
theorem d_X12_who_37 : kf_dj cX12_who 37 40 41 .goto := ⟨4, by decide +kernel, rfl, by decide⟩
theorem d_X12_who_40 : kf_dq cX12_who 40 41 1 (.iload_n 3) := ⟨by decide +kernel, rfl⟩
theorem d_X12_who_41 : kf_dq cX12_who 41 42 1 (.ireturn) := ⟨by decide +kernel, rfl⟩
def f_X12_who (v0 : Nat) (v1 : Int32) (v2 : Int32) (σ : kf_St) : Option (Int32 × kf_St) :=
  (f_X12_in v1 0 (σ.1 v0 60) σ).bind fun q_1 =>
  if q_1.1 = 0 then
    some ((-1), q_1.2)
  else
    (f_X12_in v2 0 1 q_1.2).bind fun q_3 =>
    if q_3.1 = 0 then
      some ((-1), q_3.2)
    else
      (f_X12_whoBits v0 v1 q_3.2).bind fun q_5 =>
      if v2 = 0 then
        (f_X12_bits q_5.1 q_5.2).bind fun q_7 =>
        some (q_7.1, q_7.2)
      else
        some (q_5.1, q_5.2)
set_option maxRecDepth 100000 in
set_option maxHeartbeats 4000000 in
theorem c_X12_who {G : kf_G} (hty : kf_wt G) (v0 : Nat) (v1 : Int32) (v2 : Int32) (k_v0 : kf_kd G v0 = 13) (σ : kf_St) {q : (Int32 × kf_St)} (h : f_X12_who v0 v1 v2 σ = some q) : kf_Ct (6) yX12_who cX12_who 4 (some .int) G [.ref (kf_ad G v0), .int v1, .int v2] σ (some (.int q.1)) q.2 := by
  refine kf_Ct.of hty.1 (lv := [(0, .ref (kf_ad G v0)), (1, .int v1), (2, .int v2)]) (by decide +kernel) rfl (Nat.le_of_ble_eq_true rfl) (fun X E => ?_)
  unfold f_X12_who at h
  refine wa_iload_n 1 rfl E d_X12_who_0 ?_
  refine wa_iconst 0 ic_0 E d_X12_who_1 ?_
  refine wa_aload_n 0 rfl E d_X12_who_2 ?_
  refine wa_getI fl_X12_254 k_v0 rfl E d_X12_who_3 ?_
  obtain ⟨q_1, hq_1, h⟩ := kf_bd h
  refine wa_callS (st2 := [.int q_1.1]) (c_X12_in hty v1 0 (σ.1 v0 60) σ hq_1) mt_X12_in ml_X12_313 rfl (Nat.le_of_ble_eq_true rfl) rfl (Nat.le_of_ble_eq_true rfl) E d_X12_who_6 rfl ?_
  refine wa_if_eq E d_X12_who_9 (fun c_2 => ?_) (fun c_2 => ?_)
  · replace h := kf_ift c_2 h
    refine wa_iconst (-1) ic_m1 E d_X12_who_21 ?_
    cases h
    exact wa_iret E d_X12_who_22
  · replace h := kf_iff c_2 h
    refine wa_iload_n 2 rfl E d_X12_who_12 ?_
    refine wa_iconst 0 ic_0 E d_X12_who_13 ?_
    refine wa_iconst 1 ic_1 E d_X12_who_14 ?_
    obtain ⟨q_3, hq_3, h⟩ := kf_bd h
    refine wa_callS (st2 := [.int q_3.1]) (c_X12_in hty v2 0 1 q_1.2 hq_3) mt_X12_in ml_X12_313 rfl (Nat.le_of_ble_eq_true rfl) rfl (Nat.le_of_ble_eq_true rfl) E d_X12_who_15 rfl ?_
    refine wa_if_ne E d_X12_who_18 (fun c_4 => ?_) (fun c_4 => ?_)
    · replace h := kf_iff c_4 h
      refine wa_aload_n 0 rfl E d_X12_who_23 ?_
      refine wa_iload_n 1 rfl E d_X12_who_24 ?_
      obtain ⟨q_5, hq_5, h⟩ := kf_bd h
      refine wa_callV (st2 := [.int q_5.1]) (c_X12_whoBits hty v0 v1 k_v0 q_3.2 hq_5) mv_X12_whoBits ml_X12_454 k_v0 rfl (Nat.le_of_ble_eq_true rfl) rfl (Nat.le_of_ble_eq_true rfl) E d_X12_who_25 rfl ?_
      refine wa_istore_n (lv' := [(3, .int q_5.1), (0, .ref (kf_ad G v0)), (1, .int v1), (2, .int v2)]) rfl (by decide) rfl E d_X12_who_28 ?_
      refine wa_iload_n 3 rfl E d_X12_who_29 ?_
      refine wa_if_ne E d_X12_who_30 (fun c_6 => ?_) (fun c_6 => ?_)
      · replace h := kf_iff c_6 h
        refine wa_iload_n 0 rfl E d_X12_who_40 ?_
        cases h
        exact wa_iret E d_X12_who_41
      · replace h := kf_ift c_6 h
        refine wa_iload_n 0 rfl E d_X12_who_33 ?_
        obtain ⟨q_7, hq_7, h⟩ := kf_bd h
        refine wa_callS (st2 := [.int q_7.1]) (c_X12_bits hty q_5.1 q_5.2 hq_7) mt_X12_bits ml_X12_457 rfl (Nat.le_of_ble_eq_true rfl) rfl (Nat.le_of_ble_eq_true rfl) E d_X12_who_34 rfl ?_
        refine wa_goto E d_X12_who_37 ?_
        cases h
        exact wa_iret E d_X12_who_41
    · replace h := kf_ift c_4 h
      refine wa_iconst (-1) ic_m1 E d_X12_who_21 ?_
      cases h
      exact wa_iret E d_X12_who_22
/-! X12_worstOf -/
theorem d_X12_worstOf_0 : kf_dq cX12_worstOf 0 1 1 (.iconst 0) := ⟨by decide +kernel, rfl⟩
theorem d_X12_worstOf_1 : kf_dq cX12_worstOf 1 3 2 (.istore 4) := ⟨by decide +kernel, rfl⟩
theorem d_X12_worstOf_3 : kf_dq cX12_worstOf 3 4 1 (.iconst (-1)) := ⟨by decide +kernel, rfl⟩
theorem d_X12_worstOf_4 : kf_dq cX12_worstOf 4 6 2 (.istore 5) := ⟨by decide +kernel, rfl⟩
theorem d_X12_worstOf_6 : kf_dq cX12_worstOf 6 8 2 (.iload 5) := ⟨by decide +kernel, rfl⟩
theorem d_X12_worstOf_8 : kf_dq cX12_worstOf 8 9 1 (.iconst 2) := ⟨by decide +kernel, rfl⟩
theorem d_X12_worstOf_9 : kf_dj cX12_worstOf 9 12 81 (.if_icmp .ge) := ⟨72, by decide +kernel, rfl, by decide⟩
theorem d_X12_worstOf_12 : kf_dq cX12_worstOf 12 13 1 (.iconst 0) := ⟨by decide +kernel, rfl⟩
theorem d_X12_worstOf_13 : kf_dq cX12_worstOf 13 15 2 (.istore 6) := ⟨by decide +kernel, rfl⟩
theorem d_X12_worstOf_15 : kf_dq cX12_worstOf 15 16 1 (.iconst 0) := ⟨by decide +kernel, rfl⟩
theorem d_X12_worstOf_16 : kf_dq cX12_worstOf 16 18 2 (.istore 7) := ⟨by decide +kernel, rfl⟩
theorem d_X12_worstOf_18 : kf_dq cX12_worstOf 18 20 2 (.iload 7) := ⟨by decide +kernel, rfl⟩
theorem d_X12_worstOf_20 : kf_dq cX12_worstOf 20 21 1 (.aload_n 0) := ⟨by decide +kernel, rfl⟩
theorem d_X12_worstOf_21 : kf_dq cX12_worstOf 21 24 3 (.getfield 52) := ⟨by decide +kernel, rfl⟩
theorem d_X12_worstOf_24 : kf_dq cX12_worstOf 24 25 1 (.aload_n 0) := ⟨by decide +kernel, rfl⟩
theorem d_X12_worstOf_25 : kf_dq cX12_worstOf 25 28 3 (.getfield 233) := ⟨by decide +kernel, rfl⟩
theorem d_X12_worstOf_28 : kf_dq cX12_worstOf 28 29 1 (.iaload) := ⟨by decide +kernel, rfl⟩
theorem d_X12_worstOf_29 : kf_dj cX12_worstOf 29 32 64 (.if_icmp .ge) := ⟨35, by decide +kernel, rfl, by decide⟩
theorem d_X12_worstOf_32 : kf_dq cX12_worstOf 32 33 1 (.iload_n 1) := ⟨by decide +kernel, rfl⟩
theorem d_X12_worstOf_33 : kf_dq cX12_worstOf 33 35 2 (.iload 7) := ⟨by decide +kernel, rfl⟩
theorem d_X12_worstOf_35 : kf_dq cX12_worstOf 35 36 1 (.ishr) := ⟨by decide +kernel, rfl⟩
theorem d_X12_worstOf_36 : kf_dq cX12_worstOf 36 37 1 (.iconst 1) := ⟨by decide +kernel, rfl⟩
theorem d_X12_worstOf_37 : kf_dq cX12_worstOf 37 38 1 (.iand) := ⟨by decide +kernel, rfl⟩
theorem d_X12_worstOf_38 : kf_dq cX12_worstOf 38 39 1 (.iconst 1) := ⟨by decide +kernel, rfl⟩
theorem d_X12_worstOf_39 : kf_dj cX12_worstOf 39 42 58 (.if_icmp .ne) := ⟨19, by decide +kernel, rfl, by decide⟩
theorem d_X12_worstOf_42 : kf_dq cX12_worstOf 42 43 1 (.aload_n 0) := ⟨by decide +kernel, rfl⟩
theorem d_X12_worstOf_43 : kf_dq cX12_worstOf 43 44 1 (.iload_n 2) := ⟨by decide +kernel, rfl⟩
theorem d_X12_worstOf_44 : kf_dq cX12_worstOf 44 45 1 (.iload_n 3) := ⟨by decide +kernel, rfl⟩
theorem d_X12_worstOf_45 : kf_dq cX12_worstOf 45 47 2 (.iload 7) := ⟨by decide +kernel, rfl⟩
theorem d_X12_worstOf_47 : kf_dq cX12_worstOf 47 50 3 (.invokevirtual 451) := ⟨by decide +kernel, rfl⟩
theorem d_X12_worstOf_50 : kf_dq cX12_worstOf 50 52 2 (.iload 5) := ⟨by decide +kernel, rfl⟩
theorem d_X12_worstOf_52 : kf_dj cX12_worstOf 52 55 58 (.if_icmp .ne) := ⟨6, by decide +kernel, rfl, by decide⟩
theorem d_X12_worstOf_55 : kf_dq cX12_worstOf 55 58 3 (.iinc 6 1) := ⟨by decide +kernel, rfl⟩
theorem d_X12_worstOf_58 : kf_dq cX12_worstOf 58 61 3 (.iinc 7 1) := ⟨by decide +kernel, rfl⟩
theorem d_X12_worstOf_61 : kf_dj cX12_worstOf 61 64 18 .goto := ⟨(-43), by decide +kernel, rfl, by decide⟩
theorem d_X12_worstOf_64 : kf_dq cX12_worstOf 64 66 2 (.iload 6) := ⟨by decide +kernel, rfl⟩
theorem d_X12_worstOf_66 : kf_dq cX12_worstOf 66 68 2 (.iload 4) := ⟨by decide +kernel, rfl⟩
theorem d_X12_worstOf_68 : kf_dj cX12_worstOf 68 71 75 (.if_icmp .le) := ⟨7, by decide +kernel, rfl, by decide⟩
theorem d_X12_worstOf_71 : kf_dq cX12_worstOf 71 73 2 (.iload 6) := ⟨by decide +kernel, rfl⟩
theorem d_X12_worstOf_73 : kf_dq cX12_worstOf 73 75 2 (.istore 4) := ⟨by decide +kernel, rfl⟩
theorem d_X12_worstOf_75 : kf_dq cX12_worstOf 75 78 3 (.iinc 5 1) := ⟨by decide +kernel, rfl⟩
theorem d_X12_worstOf_78 : kf_dj cX12_worstOf 78 81 6 .goto := ⟨(-72), by decide +kernel, rfl, by decide⟩
theorem d_X12_worstOf_81 : kf_dq cX12_worstOf 81 83 2 (.iload 4) := ⟨by decide +kernel, rfl⟩
theorem d_X12_worstOf_83 : kf_dq cX12_worstOf 83 84 1 (.ireturn) := ⟨by decide +kernel, rfl⟩
def f_X12_worstOf_75 (rec6 : Nat → Int32 → Int32 → Int32 → Int32 → Int32 → kf_St → Option (Int32 × kf_St)) (v0 : Nat) (v1 : Int32) (v2 : Int32) (v3 : Int32) (v4 : Int32) (v5 : Int32) (σ : kf_St) : Option (Int32 × kf_St) :=
  kf_lt (v5 + 1) fun v5_1 =>
  rec6 v0 v1 v2 v3 v4 v5_1 σ
set_option maxRecDepth 100000 in
set_option maxHeartbeats 4000000 in
theorem b_X12_worstOf_75 {X : kf_X} {G : kf_G} {rec6 : Nat → Int32 → Int32 → Int32 → Int32 → Int32 → kf_St → Option (Int32 × kf_St)} {q : (Int32 × kf_St)} (E : kf_ok X G cX12_worstOf RX12 8 (some .int) (5)) (hty : kf_wt G) (hrec6 : ∀ (v0 : Nat) (v1 : Int32) (v2 : Int32) (v3 : Int32) (v4 : Int32) (v5 : Int32) (k_v0 : kf_kd G v0 = 13) (σ : kf_St), rec6 v0 v1 v2 v3 v4 v5 σ = some q → kf_WA X G 8 (kf_Q X G (some (.int q.1)) q.2) 6 [(0, .ref (kf_ad G v0)), (1, .int v1), (2, .int v2), (3, .int v3), (4, .int v4), (5, .int v5)] [] σ) (v0 : Nat) (v1 : Int32) (v2 : Int32) (v3 : Int32) (v4 : Int32) (v5 : Int32) (k_v0 : kf_kd G v0 = 13) (σ : kf_St) (h : f_X12_worstOf_75 rec6 v0 v1 v2 v3 v4 v5 σ = some q) : kf_WA X G 8 (kf_Q X G (some (.int q.1)) q.2) 75 [(0, .ref (kf_ad G v0)), (1, .int v1), (2, .int v2), (3, .int v3), (4, .int v4), (5, .int v5)] [] σ := by
  unfold f_X12_worstOf_75 at h
  obtain ⟨v5_1, ev5_1, h⟩ := kf_lte h
  refine wa_iinc (lv' := [(5, .int v5_1), (0, .ref (kf_ad G v0)), (1, .int v1), (2, .int v2), (3, .int v3), (4, .int v4)]) v5_1 5 rfl (kf_inc ic_1 ev5_1) (by decide) rfl E d_X12_worstOf_75 ?_
  refine wa_goto E d_X12_worstOf_78 ?_
  refine wa_sub [1, 2, 3, 4, 5, 0] rfl ?_
  exact hrec6 v0 v1 v2 v3 v4 v5_1 k_v0 σ h
def f_X12_worstOf_58 (rec6 : Nat → Int32 → Int32 → Int32 → Int32 → Int32 → kf_St → Option (Int32 × kf_St)) (rec18 : Nat → Int32 → Int32 → Int32 → Int32 → Int32 → Int32 → Int32 → kf_St → Option (Int32 × kf_St)) (v0 : Nat) (v1 : Int32) (v2 : Int32) (v3 : Int32) (v4 : Int32) (v5 : Int32) (v6 : Int32) (v7 : Int32) (σ : kf_St) : Option (Int32 × kf_St) :=
  kf_lt (v7 + 1) fun v7_1 =>
  rec18 v0 v1 v2 v3 v4 v5 v6 v7_1 σ
set_option maxRecDepth 100000 in
set_option maxHeartbeats 4000000 in
theorem b_X12_worstOf_58 {X : kf_X} {G : kf_G} {rec6 : Nat → Int32 → Int32 → Int32 → Int32 → Int32 → kf_St → Option (Int32 × kf_St)} {rec18 : Nat → Int32 → Int32 → Int32 → Int32 → Int32 → Int32 → Int32 → kf_St → Option (Int32 × kf_St)} {q : (Int32 × kf_St)} (E : kf_ok X G cX12_worstOf RX12 8 (some .int) (5)) (hty : kf_wt G) (hrec6 : ∀ (v0 : Nat) (v1 : Int32) (v2 : Int32) (v3 : Int32) (v4 : Int32) (v5 : Int32) (k_v0 : kf_kd G v0 = 13) (σ : kf_St), rec6 v0 v1 v2 v3 v4 v5 σ = some q → kf_WA X G 8 (kf_Q X G (some (.int q.1)) q.2) 6 [(0, .ref (kf_ad G v0)), (1, .int v1), (2, .int v2), (3, .int v3), (4, .int v4), (5, .int v5)] [] σ) (hrec18 : ∀ (v0 : Nat) (v1 : Int32) (v2 : Int32) (v3 : Int32) (v4 : Int32) (v5 : Int32) (v6 : Int32) (v7 : Int32) (k_v0 : kf_kd G v0 = 13) (σ : kf_St), rec18 v0 v1 v2 v3 v4 v5 v6 v7 σ = some q → kf_WA X G 8 (kf_Q X G (some (.int q.1)) q.2) 18 [(0, .ref (kf_ad G v0)), (1, .int v1), (2, .int v2), (3, .int v3), (4, .int v4), (5, .int v5), (6, .int v6), (7, .int v7)] [] σ) (v0 : Nat) (v1 : Int32) (v2 : Int32) (v3 : Int32) (v4 : Int32) (v5 : Int32) (v6 : Int32) (v7 : Int32) (k_v0 : kf_kd G v0 = 13) (σ : kf_St) (h : f_X12_worstOf_58 rec6 rec18 v0 v1 v2 v3 v4 v5 v6 v7 σ = some q) : kf_WA X G 8 (kf_Q X G (some (.int q.1)) q.2) 58 [(0, .ref (kf_ad G v0)), (1, .int v1), (2, .int v2), (3, .int v3), (4, .int v4), (5, .int v5), (6, .int v6), (7, .int v7)] [] σ := by
  unfold f_X12_worstOf_58 at h
  obtain ⟨v7_1, ev7_1, h⟩ := kf_lte h
  refine wa_iinc (lv' := [(7, .int v7_1), (0, .ref (kf_ad G v0)), (1, .int v1), (2, .int v2), (3, .int v3), (4, .int v4), (5, .int v5), (6, .int v6)]) v7_1 7 rfl (kf_inc ic_1 ev7_1) (by decide) rfl E d_X12_worstOf_58 ?_
  refine wa_goto E d_X12_worstOf_61 ?_
  refine wa_sub [1, 2, 3, 4, 5, 6, 7, 0] rfl ?_
  exact hrec18 v0 v1 v2 v3 v4 v5 v6 v7_1 k_v0 σ h
def f_X12_worstOf_18_s (rec6 : Nat → Int32 → Int32 → Int32 → Int32 → Int32 → kf_St → Option (Int32 × kf_St)) (rec18 : Nat → Int32 → Int32 → Int32 → Int32 → Int32 → Int32 → Int32 → kf_St → Option (Int32 × kf_St)) (v0 : Nat) (v1 : Int32) (v2 : Int32) (v3 : Int32) (v4 : Int32) (v5 : Int32) (v6 : Int32) (v7 : Int32) (σ : kf_St) : Option (Int32 × kf_St) :=
  if kf_ix (σ.1 v0 18) (kf_ln (kf_rf v0 25)) = true then
  if (σ.1 (kf_rf v0 25) (Int32.toNatClampNeg (σ.1 v0 18))) ≤ v7 then
    if v6 ≤ v4 then
      f_X12_worstOf_75 rec6 v0 v1 v2 v3 v4 v5 σ
    else
      f_X12_worstOf_75 rec6 v0 v1 v2 v3 v6 v5 σ
  else
    if ((v1 >>> (v7 &&& 31)) &&& 1) = 1 then
      (f_X12_wayOf v0 v2 v3 v7 σ).bind fun q_5 =>
      if q_5.1 = v5 then
        kf_lt (v6 + 1) fun v6_7 =>
        f_X12_worstOf_58 rec6 rec18 v0 v1 v2 v3 v4 v5 v6_7 v7 q_5.2
      else
        f_X12_worstOf_58 rec6 rec18 v0 v1 v2 v3 v4 v5 v6 v7 q_5.2
    else
      f_X12_worstOf_58 rec6 rec18 v0 v1 v2 v3 v4 v5 v6 v7 σ
  else none
def f_X12_worstOf_18 (rec6 : Nat → Int32 → Int32 → Int32 → Int32 → Int32 → kf_St → Option (Int32 × kf_St)) : Nat → Nat → Int32 → Int32 → Int32 → Int32 → Int32 → Int32 → Int32 → kf_St → Option (Int32 × kf_St)
  | 0, _, _, _, _, _, _, _, _, _ => none
  | n + 1, v0, v1, v2, v3, v4, v5, v6, v7, σ => f_X12_worstOf_18_s rec6 (f_X12_worstOf_18 rec6 n) v0 v1 v2 v3 v4 v5 v6 v7 σ
set_option maxRecDepth 100000 in
set_option maxHeartbeats 4000000 in
theorem b_X12_worstOf_18_s {X : kf_X} {G : kf_G} {rec6 : Nat → Int32 → Int32 → Int32 → Int32 → Int32 → kf_St → Option (Int32 × kf_St)} (rec18 : Nat → Int32 → Int32 → Int32 → Int32 → Int32 → Int32 → Int32 → kf_St → Option (Int32 × kf_St)) {q : (Int32 × kf_St)} (E : kf_ok X G cX12_worstOf RX12 8 (some .int) (5)) (hty : kf_wt G) (hrec6 : ∀ (v0 : Nat) (v1 : Int32) (v2 : Int32) (v3 : Int32) (v4 : Int32) (v5 : Int32) (k_v0 : kf_kd G v0 = 13) (σ : kf_St), rec6 v0 v1 v2 v3 v4 v5 σ = some q → kf_WA X G 8 (kf_Q X G (some (.int q.1)) q.2) 6 [(0, .ref (kf_ad G v0)), (1, .int v1), (2, .int v2), (3, .int v3), (4, .int v4), (5, .int v5)] [] σ) (hrec18 : ∀ (v0 : Nat) (v1 : Int32) (v2 : Int32) (v3 : Int32) (v4 : Int32) (v5 : Int32) (v6 : Int32) (v7 : Int32) (k_v0 : kf_kd G v0 = 13) (σ : kf_St), rec18 v0 v1 v2 v3 v4 v5 v6 v7 σ = some q → kf_WA X G 8 (kf_Q X G (some (.int q.1)) q.2) 18 [(0, .ref (kf_ad G v0)), (1, .int v1), (2, .int v2), (3, .int v3), (4, .int v4), (5, .int v5), (6, .int v6), (7, .int v7)] [] σ) (v0 : Nat) (v1 : Int32) (v2 : Int32) (v3 : Int32) (v4 : Int32) (v5 : Int32) (v6 : Int32) (v7 : Int32) (k_v0 : kf_kd G v0 = 13) (σ : kf_St) (h : f_X12_worstOf_18_s rec6 rec18 v0 v1 v2 v3 v4 v5 v6 v7 σ = some q) : kf_WA X G 8 (kf_Q X G (some (.int q.1)) q.2) 18 [(0, .ref (kf_ad G v0)), (1, .int v1), (2, .int v2), (3, .int v3), (4, .int v4), (5, .int v5), (6, .int v6), (7, .int v7)] [] σ := by
  unfold f_X12_worstOf_18_s at h
  refine wa_iload 7 rfl E d_X12_worstOf_18 ?_
  refine wa_aload_n 0 rfl E d_X12_worstOf_20 ?_
  refine wa_getR fl_X12_52 k_v0 rfl E d_X12_worstOf_21 ?_
  refine wa_aload_n 0 rfl E d_X12_worstOf_24 ?_
  refine wa_getI fl_X12_233 k_v0 rfl E d_X12_worstOf_25 ?_
  obtain ⟨g_1, h⟩ := kf_gd h
  refine wa_iald (kf_wtf hty 25 49 k_v0 (by decide) rfl) g_1 E d_X12_worstOf_28 ?_
  refine wa_icmp_ge E d_X12_worstOf_29 (fun c_2 => ?_) (fun c_2 => ?_)
  · replace h := kf_ift c_2 h
    refine wa_iload 6 rfl E d_X12_worstOf_64 ?_
    refine wa_iload 4 rfl E d_X12_worstOf_66 ?_
    refine wa_icmp_le E d_X12_worstOf_68 (fun c_3 => ?_) (fun c_3 => ?_)
    · replace h := kf_ift c_3 h
      refine wa_sub [0, 1, 2, 3, 4, 5] rfl ?_
      exact b_X12_worstOf_75 E hty hrec6 v0 v1 v2 v3 v4 v5 k_v0 σ h
    · replace h := kf_iff c_3 h
      refine wa_iload 6 rfl E d_X12_worstOf_71 ?_
      refine wa_istore (lv' := [(4, .int v6), (0, .ref (kf_ad G v0)), (1, .int v1), (2, .int v2), (3, .int v3), (5, .int v5), (6, .int v6), (7, .int v7)]) (by decide) rfl E d_X12_worstOf_73 ?_
      refine wa_sub [1, 2, 3, 4, 0, 5] rfl ?_
      exact b_X12_worstOf_75 E hty hrec6 v0 v1 v2 v3 v6 v5 k_v0 σ h
  · replace h := kf_iff c_2 h
    refine wa_iload_n 1 rfl E d_X12_worstOf_32 ?_
    refine wa_iload 7 rfl E d_X12_worstOf_33 ?_
    refine wa_ishr E d_X12_worstOf_35 ?_
    refine wa_iconst 1 ic_1 E d_X12_worstOf_36 ?_
    refine wa_iand E d_X12_worstOf_37 ?_
    refine wa_iconst 1 ic_1 E d_X12_worstOf_38 ?_
    refine wa_icmp_ne E d_X12_worstOf_39 (fun c_4 => ?_) (fun c_4 => ?_)
    · replace h := kf_iff c_4 h
      exact b_X12_worstOf_58 E hty hrec6 hrec18 v0 v1 v2 v3 v4 v5 v6 v7 k_v0 σ h
    · replace h := kf_ift c_4 h
      refine wa_aload_n 0 rfl E d_X12_worstOf_42 ?_
      refine wa_iload_n 2 rfl E d_X12_worstOf_43 ?_
      refine wa_iload_n 3 rfl E d_X12_worstOf_44 ?_
      refine wa_iload 7 rfl E d_X12_worstOf_45 ?_
      obtain ⟨q_5, hq_5, h⟩ := kf_bd h
      refine wa_callV (st2 := [.int q_5.1]) (c_X12_wayOf hty v0 v2 v3 v7 k_v0 σ hq_5) mv_X12_wayOf ml_X12_451 k_v0 rfl (Nat.le_of_ble_eq_true rfl) rfl (Nat.le_of_ble_eq_true rfl) E d_X12_worstOf_47 rfl ?_
      refine wa_iload 5 rfl E d_X12_worstOf_50 ?_
      refine wa_icmp_ne E d_X12_worstOf_52 (fun c_6 => ?_) (fun c_6 => ?_)
      · replace h := kf_iff c_6 h
        exact b_X12_worstOf_58 E hty hrec6 hrec18 v0 v1 v2 v3 v4 v5 v6 v7 k_v0 q_5.2 h
      · replace h := kf_ift c_6 h
        obtain ⟨v6_7, ev6_7, h⟩ := kf_lte h
        refine wa_iinc (lv' := [(6, .int v6_7), (0, .ref (kf_ad G v0)), (1, .int v1), (2, .int v2), (3, .int v3), (4, .int v4), (5, .int v5), (7, .int v7)]) v6_7 6 rfl (kf_inc ic_1 ev6_7) (by decide) rfl E d_X12_worstOf_55 ?_
        refine wa_sub [1, 2, 3, 4, 5, 6, 0, 7] rfl ?_
        exact b_X12_worstOf_58 E hty hrec6 hrec18 v0 v1 v2 v3 v4 v5 v6_7 v7 k_v0 q_5.2 h
theorem b_X12_worstOf_18 {X : kf_X} {G : kf_G} {rec6 : Nat → Int32 → Int32 → Int32 → Int32 → Int32 → kf_St → Option (Int32 × kf_St)} {q : (Int32 × kf_St)} (E : kf_ok X G cX12_worstOf RX12 8 (some .int) (5)) (hty : kf_wt G) (hrec6 : ∀ (v0 : Nat) (v1 : Int32) (v2 : Int32) (v3 : Int32) (v4 : Int32) (v5 : Int32) (k_v0 : kf_kd G v0 = 13) (σ : kf_St), rec6 v0 v1 v2 v3 v4 v5 σ = some q → kf_WA X G 8 (kf_Q X G (some (.int q.1)) q.2) 6 [(0, .ref (kf_ad G v0)), (1, .int v1), (2, .int v2), (3, .int v3), (4, .int v4), (5, .int v5)] [] σ) : ∀ (N : Nat) (v0 : Nat) (v1 : Int32) (v2 : Int32) (v3 : Int32) (v4 : Int32) (v5 : Int32) (v6 : Int32) (v7 : Int32) (k_v0 : kf_kd G v0 = 13) (σ : kf_St) (_ : f_X12_worstOf_18 rec6 N v0 v1 v2 v3 v4 v5 v6 v7 σ = some q), kf_WA X G 8 (kf_Q X G (some (.int q.1)) q.2) 18 [(0, .ref (kf_ad G v0)), (1, .int v1), (2, .int v2), (3, .int v3), (4, .int v4), (5, .int v5), (6, .int v6), (7, .int v7)] [] σ
  | 0, _, _, _, _, _, _, _, _, _, _, h => by cases h
  | N + 1, v0, v1, v2, v3, v4, v5, v6, v7, k_v0, σ, h => b_X12_worstOf_18_s _ E hty hrec6 (b_X12_worstOf_18 E hty hrec6 N) v0 v1 v2 v3 v4 v5 v6 v7 k_v0 σ h
def f_X12_worstOf_6_s (rec6 : Nat → Int32 → Int32 → Int32 → Int32 → Int32 → kf_St → Option (Int32 × kf_St)) (v0 : Nat) (v1 : Int32) (v2 : Int32) (v3 : Int32) (v4 : Int32) (v5 : Int32) (σ : kf_St) : Option (Int32 × kf_St) :=
  if 2 ≤ v5 then
    some (v4, σ)
  else
    f_X12_worstOf_18 rec6 kf_F v0 v1 v2 v3 v4 v5 0 0 σ
def f_X12_worstOf_6 : Nat → Nat → Int32 → Int32 → Int32 → Int32 → Int32 → kf_St → Option (Int32 × kf_St)
  | 0, _, _, _, _, _, _, _ => none
  | n + 1, v0, v1, v2, v3, v4, v5, σ => f_X12_worstOf_6_s (f_X12_worstOf_6 n) v0 v1 v2 v3 v4 v5 σ
set_option maxRecDepth 100000 in
set_option maxHeartbeats 4000000 in
theorem b_X12_worstOf_6_s {X : kf_X} {G : kf_G} (rec6 : Nat → Int32 → Int32 → Int32 → Int32 → Int32 → kf_St → Option (Int32 × kf_St)) {q : (Int32 × kf_St)} (E : kf_ok X G cX12_worstOf RX12 8 (some .int) (5)) (hty : kf_wt G) (hrec6 : ∀ (v0 : Nat) (v1 : Int32) (v2 : Int32) (v3 : Int32) (v4 : Int32) (v5 : Int32) (k_v0 : kf_kd G v0 = 13) (σ : kf_St), rec6 v0 v1 v2 v3 v4 v5 σ = some q → kf_WA X G 8 (kf_Q X G (some (.int q.1)) q.2) 6 [(0, .ref (kf_ad G v0)), (1, .int v1), (2, .int v2), (3, .int v3), (4, .int v4), (5, .int v5)] [] σ) (v0 : Nat) (v1 : Int32) (v2 : Int32) (v3 : Int32) (v4 : Int32) (v5 : Int32) (k_v0 : kf_kd G v0 = 13) (σ : kf_St) (h : f_X12_worstOf_6_s rec6 v0 v1 v2 v3 v4 v5 σ = some q) : kf_WA X G 8 (kf_Q X G (some (.int q.1)) q.2) 6 [(0, .ref (kf_ad G v0)), (1, .int v1), (2, .int v2), (3, .int v3), (4, .int v4), (5, .int v5)] [] σ := by
  unfold f_X12_worstOf_6_s at h
  refine wa_iload 5 rfl E d_X12_worstOf_6 ?_
  refine wa_iconst 2 ic_2 E d_X12_worstOf_8 ?_
  refine wa_icmp_ge E d_X12_worstOf_9 (fun c_1 => ?_) (fun c_1 => ?_)
  · replace h := kf_ift c_1 h
    refine wa_iload 4 rfl E d_X12_worstOf_81 ?_
    cases h
    exact wa_iret E d_X12_worstOf_83
  · replace h := kf_iff c_1 h
    refine wa_iconst 0 ic_0 E d_X12_worstOf_12 ?_
    refine wa_istore (lv' := [(6, .int 0), (0, .ref (kf_ad G v0)), (1, .int v1), (2, .int v2), (3, .int v3), (4, .int v4), (5, .int v5)]) (by decide) rfl E d_X12_worstOf_13 ?_
    refine wa_iconst 0 ic_0 E d_X12_worstOf_15 ?_
    refine wa_istore (lv' := [(7, .int 0), (6, .int 0), (0, .ref (kf_ad G v0)), (1, .int v1), (2, .int v2), (3, .int v3), (4, .int v4), (5, .int v5)]) (by decide) rfl E d_X12_worstOf_16 ?_
    refine wa_sub [2, 3, 4, 5, 6, 7, 1, 0] rfl ?_
    exact b_X12_worstOf_18 E hty hrec6 kf_F v0 v1 v2 v3 v4 v5 0 0 k_v0 σ h
theorem b_X12_worstOf_6 {X : kf_X} {G : kf_G} {q : (Int32 × kf_St)} (E : kf_ok X G cX12_worstOf RX12 8 (some .int) (5)) (hty : kf_wt G) : ∀ (N : Nat) (v0 : Nat) (v1 : Int32) (v2 : Int32) (v3 : Int32) (v4 : Int32) (v5 : Int32) (k_v0 : kf_kd G v0 = 13) (σ : kf_St) (_ : f_X12_worstOf_6 N v0 v1 v2 v3 v4 v5 σ = some q), kf_WA X G 8 (kf_Q X G (some (.int q.1)) q.2) 6 [(0, .ref (kf_ad G v0)), (1, .int v1), (2, .int v2), (3, .int v3), (4, .int v4), (5, .int v5)] [] σ
  | 0, _, _, _, _, _, _, _, _, h => by cases h
  | N + 1, v0, v1, v2, v3, v4, v5, k_v0, σ, h => b_X12_worstOf_6_s _ E hty (b_X12_worstOf_6 E hty N) v0 v1 v2 v3 v4 v5 k_v0 σ h
def f_X12_worstOf (v0 : Nat) (v1 : Int32) (v2 : Int32) (v3 : Int32) (σ : kf_St) : Option (Int32 × kf_St) :=
  f_X12_worstOf_6 kf_F v0 v1 v2 v3 0 (-1) σ
set_option maxRecDepth 100000 in
set_option maxHeartbeats 4000000 in
theorem c_X12_worstOf {G : kf_G} (hty : kf_wt G) (v0 : Nat) (v1 : Int32) (v2 : Int32) (v3 : Int32) (k_v0 : kf_kd G v0 = 13) (σ : kf_St) {q : (Int32 × kf_St)} (h : f_X12_worstOf v0 v1 v2 v3 σ = some q) : kf_Ct (5) yX12_worstOf cX12_worstOf 8 (some .int) G [.ref (kf_ad G v0), .int v1, .int v2, .int v3] σ (some (.int q.1)) q.2 := by
  refine kf_Ct.of hty.1 (lv := [(0, .ref (kf_ad G v0)), (1, .int v1), (2, .int v2), (3, .int v3)]) (by decide +kernel) rfl (Nat.le_of_ble_eq_true rfl) (fun X E => ?_)
  unfold f_X12_worstOf at h
  refine wa_iconst 0 ic_0 E d_X12_worstOf_0 ?_
  refine wa_istore (lv' := [(4, .int 0), (0, .ref (kf_ad G v0)), (1, .int v1), (2, .int v2), (3, .int v3)]) (by decide) rfl E d_X12_worstOf_1 ?_
  refine wa_iconst (-1) ic_m1 E d_X12_worstOf_3 ?_
  refine wa_istore (lv' := [(5, .int (-1)), (4, .int 0), (0, .ref (kf_ad G v0)), (1, .int v1), (2, .int v2), (3, .int v3)]) (by decide) rfl E d_X12_worstOf_4 ?_
  refine wa_sub [2, 3, 4, 5, 1, 0] rfl ?_
  exact b_X12_worstOf_6 E hty kf_F v0 v1 v2 v3 0 (-1) k_v0 σ h
/-! X12_ask -/
theorem d_X12_ask_0 : kf_dq cX12_ask 0 1 1 (.iload_n 1) := ⟨by decide +kernel, rfl⟩
theorem d_X12_ask_1 : kf_dq cX12_ask 1 2 1 (.iconst 0) := ⟨by decide +kernel, rfl⟩
theorem d_X12_ask_2 : kf_dq cX12_ask 2 3 1 (.aload_n 0) := ⟨by decide +kernel, rfl⟩
theorem d_X12_ask_3 : kf_dq cX12_ask 3 6 3 (.getfield 254) := ⟨by decide +kernel, rfl⟩
theorem d_X12_ask_6 : kf_dq cX12_ask 6 9 3 (.invokestatic 313) := ⟨by decide +kernel, rfl⟩
theorem d_X12_ask_9 : kf_dj cX12_ask 9 12 14 (.ifCond .ne) := ⟨5, by decide +kernel, rfl, by decide⟩
theorem d_X12_ask_12 : kf_dq cX12_ask 12 13 1 (.iconst (-1)) := ⟨by decide +kernel, rfl⟩
theorem d_X12_ask_13 : kf_dq cX12_ask 13 14 1 (.ireturn) := ⟨by decide +kernel, rfl⟩
theorem d_X12_ask_14 : kf_dq cX12_ask 14 15 1 (.aload_n 0) := ⟨by decide +kernel, rfl⟩
theorem d_X12_ask_15 : kf_dq cX12_ask 15 16 1 (.iload_n 1) := ⟨by decide +kernel, rfl⟩
theorem d_X12_ask_16 : kf_dq cX12_ask 16 19 3 (.invokevirtual 454) := ⟨by decide +kernel, rfl⟩
theorem d_X12_ask_19 : kf_dq cX12_ask 19 20 1 (.istore_n 2) := ⟨by decide +kernel, rfl⟩
theorem d_X12_ask_20 : kf_dq cX12_ask 20 22 2 (.bipush (-2)) := ⟨by decide +kernel, rfl⟩
theorem d_X12_ask_22 : kf_dq cX12_ask 22 23 1 (.istore_n 3) := ⟨by decide +kernel, rfl⟩
theorem d_X12_ask_23 : kf_dq cX12_ask 23 24 1 (.iconst 0) := ⟨by decide +kernel, rfl⟩
theorem d_X12_ask_24 : kf_dq cX12_ask 24 26 2 (.istore 4) := ⟨by decide +kernel, rfl⟩
theorem d_X12_ask_26 : kf_dq cX12_ask 26 27 1 (.iconst 0) := ⟨by decide +kernel, rfl⟩
theorem d_X12_ask_27 : kf_dq cX12_ask 27 29 2 (.istore 5) := ⟨by decide +kernel, rfl⟩
theorem d_X12_ask_29 : kf_dq cX12_ask 29 31 2 (.iload 5) := ⟨by decide +kernel, rfl⟩
theorem d_X12_ask_31 : kf_dq cX12_ask 31 32 1 (.iconst 4) := ⟨by decide +kernel, rfl⟩
theorem d_X12_ask_32 : kf_dq cX12_ask 32 33 1 (.aload_n 0) := ⟨by decide +kernel, rfl⟩
theorem d_X12_ask_33 : kf_dq cX12_ask 33 36 3 (.getfield 46) := ⟨by decide +kernel, rfl⟩
theorem d_X12_ask_36 : kf_dq cX12_ask 36 37 1 (.aload_n 0) := ⟨by decide +kernel, rfl⟩
theorem d_X12_ask_37 : kf_dq cX12_ask 37 40 3 (.getfield 233) := ⟨by decide +kernel, rfl⟩
theorem d_X12_ask_40 : kf_dq cX12_ask 40 41 1 (.iaload) := ⟨by decide +kernel, rfl⟩
theorem d_X12_ask_41 : kf_dq cX12_ask 41 42 1 (.imul) := ⟨by decide +kernel, rfl⟩
theorem d_X12_ask_42 : kf_dj cX12_ask 42 45 101 (.if_icmp .ge) := ⟨59, by decide +kernel, rfl, by decide⟩
theorem d_X12_ask_45 : kf_dq cX12_ask 45 46 1 (.iload_n 2) := ⟨by decide +kernel, rfl⟩
theorem d_X12_ask_46 : kf_dj cX12_ask 46 49 101 (.ifCond .eq) := ⟨55, by decide +kernel, rfl, by decide⟩
theorem d_X12_ask_49 : kf_dq cX12_ask 49 50 1 (.aload_n 0) := ⟨by decide +kernel, rfl⟩
theorem d_X12_ask_50 : kf_dq cX12_ask 50 51 1 (.iload_n 2) := ⟨by decide +kernel, rfl⟩
theorem d_X12_ask_51 : kf_dq cX12_ask 51 53 2 (.iload 5) := ⟨by decide +kernel, rfl⟩
theorem d_X12_ask_53 : kf_dq cX12_ask 53 54 1 (.iconst 4) := ⟨by decide +kernel, rfl⟩
theorem d_X12_ask_54 : kf_dq cX12_ask 54 55 1 (.idiv) := ⟨by decide +kernel, rfl⟩
theorem d_X12_ask_55 : kf_dq cX12_ask 55 57 2 (.iload 5) := ⟨by decide +kernel, rfl⟩
theorem d_X12_ask_57 : kf_dq cX12_ask 57 58 1 (.iconst 4) := ⟨by decide +kernel, rfl⟩
theorem d_X12_ask_58 : kf_dq cX12_ask 58 59 1 (.irem) := ⟨by decide +kernel, rfl⟩
theorem d_X12_ask_59 : kf_dq cX12_ask 59 62 3 (.invokevirtual 460) := ⟨by decide +kernel, rfl⟩
theorem d_X12_ask_62 : kf_dq cX12_ask 62 64 2 (.istore 6) := ⟨by decide +kernel, rfl⟩
theorem d_X12_ask_64 : kf_dq cX12_ask 64 65 1 (.iload_n 3) := ⟨by decide +kernel, rfl⟩
theorem d_X12_ask_65 : kf_dj cX12_ask 65 68 78 (.ifCond .lt) := ⟨13, by decide +kernel, rfl, by decide⟩
theorem d_X12_ask_68 : kf_dq cX12_ask 68 70 2 (.iload 6) := ⟨by decide +kernel, rfl⟩
theorem d_X12_ask_70 : kf_dq cX12_ask 70 72 2 (.iload 4) := ⟨by decide +kernel, rfl⟩
theorem d_X12_ask_72 : kf_dj cX12_ask 72 75 78 (.if_icmp .lt) := ⟨6, by decide +kernel, rfl, by decide⟩
theorem d_X12_ask_75 : kf_dj cX12_ask 75 78 95 .goto := ⟨20, by decide +kernel, rfl, by decide⟩
theorem d_X12_ask_78 : kf_dq cX12_ask 78 80 2 (.bipush 10) := ⟨by decide +kernel, rfl⟩
theorem d_X12_ask_80 : kf_dq cX12_ask 80 82 2 (.iload 5) := ⟨by decide +kernel, rfl⟩
theorem d_X12_ask_82 : kf_dq cX12_ask 82 83 1 (.iconst 4) := ⟨by decide +kernel, rfl⟩
theorem d_X12_ask_83 : kf_dq cX12_ask 83 84 1 (.idiv) := ⟨by decide +kernel, rfl⟩
theorem d_X12_ask_84 : kf_dq cX12_ask 84 85 1 (.imul) := ⟨by decide +kernel, rfl⟩
theorem d_X12_ask_85 : kf_dq cX12_ask 85 87 2 (.iload 5) := ⟨by decide +kernel, rfl⟩
theorem d_X12_ask_87 : kf_dq cX12_ask 87 88 1 (.iconst 4) := ⟨by decide +kernel, rfl⟩
theorem d_X12_ask_88 : kf_dq cX12_ask 88 89 1 (.irem) := ⟨by decide +kernel, rfl⟩
theorem d_X12_ask_89 : kf_dq cX12_ask 89 90 1 (.iadd) := ⟨by decide +kernel, rfl⟩
theorem d_X12_ask_90 : kf_dq cX12_ask 90 91 1 (.istore_n 3) := ⟨by decide +kernel, rfl⟩
theorem d_X12_ask_91 : kf_dq cX12_ask 91 93 2 (.iload 6) := ⟨by decide +kernel, rfl⟩
theorem d_X12_ask_93 : kf_dq cX12_ask 93 95 2 (.istore 4) := ⟨by decide +kernel, rfl⟩
theorem d_X12_ask_95 : kf_dq cX12_ask 95 98 3 (.iinc 5 1) := ⟨by decide +kernel, rfl⟩
theorem d_X12_ask_98 : kf_dj cX12_ask 98 101 29 .goto := ⟨(-69), by decide +kernel, rfl, by decide⟩
theorem d_X12_ask_101 : kf_dq cX12_ask 101 102 1 (.iload_n 3) := ⟨by decide +kernel, rfl⟩
theorem d_X12_ask_102 : kf_dq cX12_ask 102 103 1 (.ireturn) := ⟨by decide +kernel, rfl⟩
def f_X12_ask_95 (rec29 : Nat → Int32 → Int32 → Int32 → Int32 → kf_St → Option (Int32 × kf_St)) (v0 : Nat) (v2 : Int32) (v3 : Int32) (v4 : Int32) (v5 : Int32) (σ : kf_St) : Option (Int32 × kf_St) :=
  kf_lt (v5 + 1) fun v5_1 =>
  rec29 v0 v2 v3 v4 v5_1 σ
set_option maxRecDepth 100000 in
set_option maxHeartbeats 4000000 in
theorem b_X12_ask_95 {X : kf_X} {G : kf_G} {rec29 : Nat → Int32 → Int32 → Int32 → Int32 → kf_St → Option (Int32 × kf_St)} {q : (Int32 × kf_St)} (E : kf_ok X G cX12_ask RX12 7 (some .int) (6)) (hty : kf_wt G) (hrec29 : ∀ (v0 : Nat) (v2 : Int32) (v3 : Int32) (v4 : Int32) (v5 : Int32) (k_v0 : kf_kd G v0 = 13) (σ : kf_St), rec29 v0 v2 v3 v4 v5 σ = some q → kf_WA X G 7 (kf_Q X G (some (.int q.1)) q.2) 29 [(0, .ref (kf_ad G v0)), (2, .int v2), (3, .int v3), (4, .int v4), (5, .int v5)] [] σ) (v0 : Nat) (v2 : Int32) (v3 : Int32) (v4 : Int32) (v5 : Int32) (k_v0 : kf_kd G v0 = 13) (σ : kf_St) (h : f_X12_ask_95 rec29 v0 v2 v3 v4 v5 σ = some q) : kf_WA X G 7 (kf_Q X G (some (.int q.1)) q.2) 95 [(0, .ref (kf_ad G v0)), (2, .int v2), (3, .int v3), (4, .int v4), (5, .int v5)] [] σ := by
  unfold f_X12_ask_95 at h
  obtain ⟨v5_1, ev5_1, h⟩ := kf_lte h
  refine wa_iinc (lv' := [(5, .int v5_1), (0, .ref (kf_ad G v0)), (2, .int v2), (3, .int v3), (4, .int v4)]) v5_1 4 rfl (kf_inc ic_1 ev5_1) (by decide) rfl E d_X12_ask_95 ?_
  refine wa_goto E d_X12_ask_98 ?_
  refine wa_sub [1, 2, 3, 4, 0] rfl ?_
  exact hrec29 v0 v2 v3 v4 v5_1 k_v0 σ h
def f_X12_ask_78 (rec29 : Nat → Int32 → Int32 → Int32 → Int32 → kf_St → Option (Int32 × kf_St)) (v0 : Nat) (v2 : Int32) (v5 : Int32) (v6 : Int32) (σ : kf_St) : Option (Int32 × kf_St) :=
  if (4 : Int32) = 0 then none else
  if (4 : Int32) = 0 then none else
  kf_lt (((10 * (v5 / 4)) + (v5 - v5 / 4 * 4))) fun v3_3 =>
  f_X12_ask_95 rec29 v0 v2 v3_3 v6 v5 σ
set_option maxRecDepth 100000 in
set_option maxHeartbeats 4000000 in
theorem b_X12_ask_78 {X : kf_X} {G : kf_G} {rec29 : Nat → Int32 → Int32 → Int32 → Int32 → kf_St → Option (Int32 × kf_St)} {q : (Int32 × kf_St)} (E : kf_ok X G cX12_ask RX12 7 (some .int) (6)) (hty : kf_wt G) (hrec29 : ∀ (v0 : Nat) (v2 : Int32) (v3 : Int32) (v4 : Int32) (v5 : Int32) (k_v0 : kf_kd G v0 = 13) (σ : kf_St), rec29 v0 v2 v3 v4 v5 σ = some q → kf_WA X G 7 (kf_Q X G (some (.int q.1)) q.2) 29 [(0, .ref (kf_ad G v0)), (2, .int v2), (3, .int v3), (4, .int v4), (5, .int v5)] [] σ) (v0 : Nat) (v2 : Int32) (v5 : Int32) (v6 : Int32) (k_v0 : kf_kd G v0 = 13) (σ : kf_St) (h : f_X12_ask_78 rec29 v0 v2 v5 v6 σ = some q) : kf_WA X G 7 (kf_Q X G (some (.int q.1)) q.2) 78 [(0, .ref (kf_ad G v0)), (2, .int v2), (5, .int v5), (6, .int v6)] [] σ := by
  unfold f_X12_ask_78 at h
  refine wa_bipush 10 bp_10 E d_X12_ask_78 ?_
  refine wa_iload 2 rfl E d_X12_ask_80 ?_
  refine wa_iconst 4 ic_4 E d_X12_ask_82 ?_
  obtain ⟨g_1, h⟩ := kf_gn h
  refine wa_idiv g_1 E d_X12_ask_83 ?_
  refine wa_imul E d_X12_ask_84 ?_
  refine wa_iload 2 rfl E d_X12_ask_85 ?_
  refine wa_iconst 4 ic_4 E d_X12_ask_87 ?_
  obtain ⟨g_2, h⟩ := kf_gn h
  refine wa_irem g_2 E d_X12_ask_88 ?_
  refine wa_iadd E d_X12_ask_89 ?_
  obtain ⟨v3_3, ev3_3, h⟩ := kf_lte h
  refine wa_topi ev3_3 ?_
  refine wa_istore_n (lv' := [(3, .int v3_3), (0, .ref (kf_ad G v0)), (2, .int v2), (5, .int v5), (6, .int v6)]) rfl (by decide) rfl E d_X12_ask_90 ?_
  refine wa_iload 4 rfl E d_X12_ask_91 ?_
  refine wa_istore (lv' := [(4, .int v6), (3, .int v3_3), (0, .ref (kf_ad G v0)), (2, .int v2), (5, .int v5), (6, .int v6)]) (by decide) rfl E d_X12_ask_93 ?_
  refine wa_sub [2, 3, 1, 0, 4] rfl ?_
  exact b_X12_ask_95 E hty hrec29 v0 v2 v3_3 v6 v5 k_v0 σ h
def f_X12_ask_29_s (rec29 : Nat → Int32 → Int32 → Int32 → Int32 → kf_St → Option (Int32 × kf_St)) (v0 : Nat) (v2 : Int32) (v3 : Int32) (v4 : Int32) (v5 : Int32) (σ : kf_St) : Option (Int32 × kf_St) :=
  if kf_ix (σ.1 v0 18) (kf_ln (kf_rf v0 23)) = true then
  if (4 * (σ.1 (kf_rf v0 23) (Int32.toNatClampNeg (σ.1 v0 18)))) ≤ v5 then
    some (v3, σ)
  else
    if v2 = 0 then
      some (v3, σ)
    else
      if (4 : Int32) = 0 then none else
      if (4 : Int32) = 0 then none else
      (f_X12_worstOf v0 v2 (v5 / 4) (v5 - v5 / 4 * 4) σ).bind fun q_6 =>
      if v3 < 0 then
        f_X12_ask_78 rec29 v0 v2 v5 q_6.1 q_6.2
      else
        if q_6.1 < v4 then
          f_X12_ask_78 rec29 v0 v2 v5 q_6.1 q_6.2
        else
          f_X12_ask_95 rec29 v0 v2 v3 v4 v5 q_6.2
  else none
def f_X12_ask_29 : Nat → Nat → Int32 → Int32 → Int32 → Int32 → kf_St → Option (Int32 × kf_St)
  | 0, _, _, _, _, _, _ => none
  | n + 1, v0, v2, v3, v4, v5, σ => f_X12_ask_29_s (f_X12_ask_29 n) v0 v2 v3 v4 v5 σ
set_option maxRecDepth 100000 in
set_option maxHeartbeats 4000000 in
theorem b_X12_ask_29_s {X : kf_X} {G : kf_G} (rec29 : Nat → Int32 → Int32 → Int32 → Int32 → kf_St → Option (Int32 × kf_St)) {q : (Int32 × kf_St)} (E : kf_ok X G cX12_ask RX12 7 (some .int) (6)) (hty : kf_wt G) (hrec29 : ∀ (v0 : Nat) (v2 : Int32) (v3 : Int32) (v4 : Int32) (v5 : Int32) (k_v0 : kf_kd G v0 = 13) (σ : kf_St), rec29 v0 v2 v3 v4 v5 σ = some q → kf_WA X G 7 (kf_Q X G (some (.int q.1)) q.2) 29 [(0, .ref (kf_ad G v0)), (2, .int v2), (3, .int v3), (4, .int v4), (5, .int v5)] [] σ) (v0 : Nat) (v2 : Int32) (v3 : Int32) (v4 : Int32) (v5 : Int32) (k_v0 : kf_kd G v0 = 13) (σ : kf_St) (h : f_X12_ask_29_s rec29 v0 v2 v3 v4 v5 σ = some q) : kf_WA X G 7 (kf_Q X G (some (.int q.1)) q.2) 29 [(0, .ref (kf_ad G v0)), (2, .int v2), (3, .int v3), (4, .int v4), (5, .int v5)] [] σ := by
  unfold f_X12_ask_29_s at h
  refine wa_iload 4 rfl E d_X12_ask_29 ?_
  refine wa_iconst 4 ic_4 E d_X12_ask_31 ?_
  refine wa_aload_n 0 rfl E d_X12_ask_32 ?_
  refine wa_getR fl_X12_46 k_v0 rfl E d_X12_ask_33 ?_
  refine wa_aload_n 0 rfl E d_X12_ask_36 ?_
  refine wa_getI fl_X12_233 k_v0 rfl E d_X12_ask_37 ?_
  obtain ⟨g_1, h⟩ := kf_gd h
  refine wa_iald (kf_wtf hty 23 49 k_v0 (by decide) rfl) g_1 E d_X12_ask_40 ?_
  refine wa_imul E d_X12_ask_41 ?_
  refine wa_icmp_ge E d_X12_ask_42 (fun c_2 => ?_) (fun c_2 => ?_)
  · replace h := kf_ift c_2 h
    refine wa_iload_n 2 rfl E d_X12_ask_101 ?_
    cases h
    exact wa_iret E d_X12_ask_102
  · replace h := kf_iff c_2 h
    refine wa_iload_n 1 rfl E d_X12_ask_45 ?_
    refine wa_if_eq E d_X12_ask_46 (fun c_3 => ?_) (fun c_3 => ?_)
    · replace h := kf_ift c_3 h
      refine wa_iload_n 2 rfl E d_X12_ask_101 ?_
      cases h
      exact wa_iret E d_X12_ask_102
    · replace h := kf_iff c_3 h
      refine wa_aload_n 0 rfl E d_X12_ask_49 ?_
      refine wa_iload_n 1 rfl E d_X12_ask_50 ?_
      refine wa_iload 4 rfl E d_X12_ask_51 ?_
      refine wa_iconst 4 ic_4 E d_X12_ask_53 ?_
      obtain ⟨g_4, h⟩ := kf_gn h
      refine wa_idiv g_4 E d_X12_ask_54 ?_
      refine wa_iload 4 rfl E d_X12_ask_55 ?_
      refine wa_iconst 4 ic_4 E d_X12_ask_57 ?_
      obtain ⟨g_5, h⟩ := kf_gn h
      refine wa_irem g_5 E d_X12_ask_58 ?_
      obtain ⟨q_6, hq_6, h⟩ := kf_bd h
      refine wa_callV (st2 := [.int q_6.1]) (c_X12_worstOf hty v0 v2 (v5 / 4) (v5 - v5 / 4 * 4) k_v0 σ hq_6) mv_X12_worstOf ml_X12_460 k_v0 rfl (Nat.le_of_ble_eq_true rfl) rfl (Nat.le_of_ble_eq_true rfl) E d_X12_ask_59 rfl ?_
      refine wa_istore (lv' := [(6, .int q_6.1), (0, .ref (kf_ad G v0)), (2, .int v2), (3, .int v3), (4, .int v4), (5, .int v5)]) (by decide) rfl E d_X12_ask_62 ?_
      refine wa_iload_n 3 rfl E d_X12_ask_64 ?_
      refine wa_if_lt E d_X12_ask_65 (fun c_7 => ?_) (fun c_7 => ?_)
      · replace h := kf_ift c_7 h
        refine wa_sub [1, 2, 5, 0] rfl ?_
        exact b_X12_ask_78 E hty hrec29 v0 v2 v5 q_6.1 k_v0 q_6.2 h
      · replace h := kf_iff c_7 h
        refine wa_iload 0 rfl E d_X12_ask_68 ?_
        refine wa_iload 4 rfl E d_X12_ask_70 ?_
        refine wa_icmp_lt E d_X12_ask_72 (fun c_8 => ?_) (fun c_8 => ?_)
        · replace h := kf_ift c_8 h
          refine wa_sub [1, 2, 5, 0] rfl ?_
          exact b_X12_ask_78 E hty hrec29 v0 v2 v5 q_6.1 k_v0 q_6.2 h
        · replace h := kf_iff c_8 h
          refine wa_goto E d_X12_ask_75 ?_
          refine wa_sub [1, 2, 3, 4, 5] rfl ?_
          exact b_X12_ask_95 E hty hrec29 v0 v2 v3 v4 v5 k_v0 q_6.2 h
theorem b_X12_ask_29 {X : kf_X} {G : kf_G} {q : (Int32 × kf_St)} (E : kf_ok X G cX12_ask RX12 7 (some .int) (6)) (hty : kf_wt G) : ∀ (N : Nat) (v0 : Nat) (v2 : Int32) (v3 : Int32) (v4 : Int32) (v5 : Int32) (k_v0 : kf_kd G v0 = 13) (σ : kf_St) (_ : f_X12_ask_29 N v0 v2 v3 v4 v5 σ = some q), kf_WA X G 7 (kf_Q X G (some (.int q.1)) q.2) 29 [(0, .ref (kf_ad G v0)), (2, .int v2), (3, .int v3), (4, .int v4), (5, .int v5)] [] σ
  | 0, _, _, _, _, _, _, _, h => by cases h
  | N + 1, v0, v2, v3, v4, v5, k_v0, σ, h => b_X12_ask_29_s _ E hty (b_X12_ask_29 E hty N) v0 v2 v3 v4 v5 k_v0 σ h
def f_X12_ask (v0 : Nat) (v1 : Int32) (σ : kf_St) : Option (Int32 × kf_St) :=
  (f_X12_in v1 0 (σ.1 v0 60) σ).bind fun q_1 =>
  if q_1.1 = 0 then
    some ((-1), q_1.2)
  else
    (f_X12_whoBits v0 v1 q_1.2).bind fun q_3 =>
    f_X12_ask_29 kf_F v0 q_3.1 (-2) 0 0 q_3.2
set_option maxRecDepth 100000 in
set_option maxHeartbeats 4000000 in
theorem c_X12_ask {G : kf_G} (hty : kf_wt G) (v0 : Nat) (v1 : Int32) (k_v0 : kf_kd G v0 = 13) (σ : kf_St) {q : (Int32 × kf_St)} (h : f_X12_ask v0 v1 σ = some q) : kf_Ct (6) yX12_ask cX12_ask 7 (some .int) G [.ref (kf_ad G v0), .int v1] σ (some (.int q.1)) q.2 := by
  refine kf_Ct.of hty.1 (lv := [(0, .ref (kf_ad G v0)), (1, .int v1)]) (by decide +kernel) rfl (Nat.le_of_ble_eq_true rfl) (fun X E => ?_)
  unfold f_X12_ask at h
  refine wa_iload_n 1 rfl E d_X12_ask_0 ?_
  refine wa_iconst 0 ic_0 E d_X12_ask_1 ?_
  refine wa_aload_n 0 rfl E d_X12_ask_2 ?_
  refine wa_getI fl_X12_254 k_v0 rfl E d_X12_ask_3 ?_
  obtain ⟨q_1, hq_1, h⟩ := kf_bd h
  refine wa_callS (st2 := [.int q_1.1]) (c_X12_in hty v1 0 (σ.1 v0 60) σ hq_1) mt_X12_in ml_X12_313 rfl (Nat.le_of_ble_eq_true rfl) rfl (Nat.le_of_ble_eq_true rfl) E d_X12_ask_6 rfl ?_
  refine wa_if_ne E d_X12_ask_9 (fun c_2 => ?_) (fun c_2 => ?_)
  · replace h := kf_iff c_2 h
    refine wa_aload_n 0 rfl E d_X12_ask_14 ?_
    refine wa_iload_n 1 rfl E d_X12_ask_15 ?_
    obtain ⟨q_3, hq_3, h⟩ := kf_bd h
    refine wa_callV (st2 := [.int q_3.1]) (c_X12_whoBits hty v0 v1 k_v0 q_1.2 hq_3) mv_X12_whoBits ml_X12_454 k_v0 rfl (Nat.le_of_ble_eq_true rfl) rfl (Nat.le_of_ble_eq_true rfl) E d_X12_ask_16 rfl ?_
    refine wa_istore_n (lv' := [(2, .int q_3.1), (0, .ref (kf_ad G v0)), (1, .int v1)]) rfl (by decide) rfl E d_X12_ask_19 ?_
    refine wa_bipush (-2) bp_m2 E d_X12_ask_20 ?_
    refine wa_istore_n (lv' := [(3, .int (-2)), (2, .int q_3.1), (0, .ref (kf_ad G v0)), (1, .int v1)]) rfl (by decide) rfl E d_X12_ask_22 ?_
    refine wa_iconst 0 ic_0 E d_X12_ask_23 ?_
    refine wa_istore (lv' := [(4, .int 0), (3, .int (-2)), (2, .int q_3.1), (0, .ref (kf_ad G v0)), (1, .int v1)]) (by decide) rfl E d_X12_ask_24 ?_
    refine wa_iconst 0 ic_0 E d_X12_ask_26 ?_
    refine wa_istore (lv' := [(5, .int 0), (4, .int 0), (3, .int (-2)), (2, .int q_3.1), (0, .ref (kf_ad G v0)), (1, .int v1)]) (by decide) rfl E d_X12_ask_27 ?_
    refine wa_sub [4, 3, 2, 1, 0] rfl ?_
    exact b_X12_ask_29 E hty kf_F v0 q_3.1 (-2) 0 0 k_v0 q_3.2 h
  · replace h := kf_ift c_2 h
    refine wa_iconst (-1) ic_m1 E d_X12_ask_12 ?_
    cases h
    exact wa_iret E d_X12_ask_13
/-! X12_hold -/
theorem d_X12_hold_0 : kf_dq cX12_hold 0 1 1 (.iload_n 1) := ⟨by decide +kernel, rfl⟩
theorem d_X12_hold_1 : kf_dq cX12_hold 1 2 1 (.iconst 0) := ⟨by decide +kernel, rfl⟩
theorem d_X12_hold_2 : kf_dq cX12_hold 2 3 1 (.iconst 2) := ⟨by decide +kernel, rfl⟩
theorem d_X12_hold_3 : kf_dq cX12_hold 3 6 3 (.invokestatic 313) := ⟨by decide +kernel, rfl⟩
theorem d_X12_hold_6 : kf_dj cX12_hold 6 9 11 (.ifCond .ne) := ⟨5, by decide +kernel, rfl, by decide⟩
theorem d_X12_hold_9 : kf_dq cX12_hold 9 10 1 (.iconst 0) := ⟨by decide +kernel, rfl⟩
theorem d_X12_hold_10 : kf_dq cX12_hold 10 11 1 (.ireturn) := ⟨by decide +kernel, rfl⟩
theorem d_X12_hold_11 : kf_dq cX12_hold 11 12 1 (.aload_n 0) := ⟨by decide +kernel, rfl⟩
theorem d_X12_hold_12 : kf_dq cX12_hold 12 15 3 (.getfield 146) := ⟨by decide +kernel, rfl⟩
theorem d_X12_hold_15 : kf_dq cX12_hold 15 16 1 (.iload_n 1) := ⟨by decide +kernel, rfl⟩
theorem d_X12_hold_16 : kf_dq cX12_hold 16 17 1 (.iconst 1) := ⟨by decide +kernel, rfl⟩
theorem d_X12_hold_17 : kf_dq cX12_hold 17 18 1 (.bastore) := ⟨by decide +kernel, rfl⟩
theorem d_X12_hold_18 : kf_dq cX12_hold 18 19 1 (.iconst 0) := ⟨by decide +kernel, rfl⟩
theorem d_X12_hold_19 : kf_dq cX12_hold 19 20 1 (.istore_n 2) := ⟨by decide +kernel, rfl⟩
theorem d_X12_hold_20 : kf_dq cX12_hold 20 21 1 (.iload_n 2) := ⟨by decide +kernel, rfl⟩
theorem d_X12_hold_21 : kf_dq cX12_hold 21 23 2 (.bipush 70) := ⟨by decide +kernel, rfl⟩
theorem d_X12_hold_23 : kf_dj cX12_hold 23 26 49 (.if_icmp .ge) := ⟨26, by decide +kernel, rfl, by decide⟩
theorem d_X12_hold_26 : kf_dq cX12_hold 26 27 1 (.aload_n 0) := ⟨by decide +kernel, rfl⟩
theorem d_X12_hold_27 : kf_dq cX12_hold 27 30 3 (.getfield 149) := ⟨by decide +kernel, rfl⟩
theorem d_X12_hold_30 : kf_dq cX12_hold 30 32 2 (.bipush 70) := ⟨by decide +kernel, rfl⟩
theorem d_X12_hold_32 : kf_dq cX12_hold 32 33 1 (.iload_n 1) := ⟨by decide +kernel, rfl⟩
theorem d_X12_hold_33 : kf_dq cX12_hold 33 34 1 (.imul) := ⟨by decide +kernel, rfl⟩
theorem d_X12_hold_34 : kf_dq cX12_hold 34 35 1 (.iload_n 2) := ⟨by decide +kernel, rfl⟩
theorem d_X12_hold_35 : kf_dq cX12_hold 35 36 1 (.iadd) := ⟨by decide +kernel, rfl⟩
theorem d_X12_hold_36 : kf_dq cX12_hold 36 37 1 (.aload_n 0) := ⟨by decide +kernel, rfl⟩
theorem d_X12_hold_37 : kf_dq cX12_hold 37 40 3 (.getfield 119) := ⟨by decide +kernel, rfl⟩
theorem d_X12_hold_40 : kf_dq cX12_hold 40 41 1 (.iload_n 2) := ⟨by decide +kernel, rfl⟩
theorem d_X12_hold_41 : kf_dq cX12_hold 41 42 1 (.iaload) := ⟨by decide +kernel, rfl⟩
theorem d_X12_hold_42 : kf_dq cX12_hold 42 43 1 (.iastore) := ⟨by decide +kernel, rfl⟩
theorem d_X12_hold_43 : kf_dq cX12_hold 43 46 3 (.iinc 2 1) := ⟨by decide +kernel, rfl⟩
theorem d_X12_hold_46 : kf_dj cX12_hold 46 49 20 .goto := ⟨(-26), by decide +kernel, rfl, by decide⟩
theorem d_X12_hold_49 : kf_dq cX12_hold 49 50 1 (.iconst 1) := ⟨by decide +kernel, rfl⟩
theorem d_X12_hold_50 : kf_dq cX12_hold 50 51 1 (.ireturn) := ⟨by decide +kernel, rfl⟩
def f_X12_hold_20_s (rec20 : Nat → Int32 → Int32 → kf_St → Option (Int32 × kf_St)) (v0 : Nat) (v1 : Int32) (v2 : Int32) (σ : kf_St) : Option (Int32 × kf_St) :=
  if 70 ≤ v2 then
    some (1, σ)
  else
    if kf_ix v2 (kf_ln (kf_rf v0 51)) = true then
    if kf_ix ((70 * v1) + v2) (kf_ln (kf_rf v0 65)) = true then
    kf_lt (kf_wi σ (kf_rf v0 65) (Int32.toNatClampNeg ((70 * v1) + v2)) (σ.1 (kf_rf v0 51) (Int32.toNatClampNeg v2))) fun σ_4 =>
    kf_lt (v2 + 1) fun v2_5 =>
    rec20 v0 v1 v2_5 σ_4
    else none
    else none
def f_X12_hold_20 : Nat → Nat → Int32 → Int32 → kf_St → Option (Int32 × kf_St)
  | 0, _, _, _, _ => none
  | n + 1, v0, v1, v2, σ => f_X12_hold_20_s (f_X12_hold_20 n) v0 v1 v2 σ
set_option maxRecDepth 100000 in
set_option maxHeartbeats 4000000 in
theorem b_X12_hold_20_s {X : kf_X} {G : kf_G} (rec20 : Nat → Int32 → Int32 → kf_St → Option (Int32 × kf_St)) {q : (Int32 × kf_St)} (E : kf_ok X G cX12_hold RX12 3 (some .boolean) (2)) (hty : kf_wt G) (hrec20 : ∀ (v0 : Nat) (v1 : Int32) (v2 : Int32) (k_v0 : kf_kd G v0 = 13) (σ : kf_St), rec20 v0 v1 v2 σ = some q → kf_WA X G 3 (kf_Q X G (some (.int q.1)) q.2) 20 [(0, .ref (kf_ad G v0)), (1, .int v1), (2, .int v2)] [] σ) (v0 : Nat) (v1 : Int32) (v2 : Int32) (k_v0 : kf_kd G v0 = 13) (σ : kf_St) (h : f_X12_hold_20_s rec20 v0 v1 v2 σ = some q) : kf_WA X G 3 (kf_Q X G (some (.int q.1)) q.2) 20 [(0, .ref (kf_ad G v0)), (1, .int v1), (2, .int v2)] [] σ := by
  unfold f_X12_hold_20_s at h
  refine wa_iload_n 2 rfl E d_X12_hold_20 ?_
  refine wa_bipush 70 bp_70 E d_X12_hold_21 ?_
  refine wa_icmp_ge E d_X12_hold_23 (fun c_1 => ?_) (fun c_1 => ?_)
  · replace h := kf_ift c_1 h
    refine wa_iconst 1 ic_1 E d_X12_hold_49 ?_
    cases h
    exact wa_zret kf_z1 E d_X12_hold_50
  · replace h := kf_iff c_1 h
    refine wa_aload_n 0 rfl E d_X12_hold_26 ?_
    refine wa_getR fl_X12_149 k_v0 rfl E d_X12_hold_27 ?_
    refine wa_bipush 70 bp_70 E d_X12_hold_30 ?_
    refine wa_iload_n 1 rfl E d_X12_hold_32 ?_
    refine wa_imul E d_X12_hold_33 ?_
    refine wa_iload_n 2 rfl E d_X12_hold_34 ?_
    refine wa_iadd E d_X12_hold_35 ?_
    refine wa_aload_n 0 rfl E d_X12_hold_36 ?_
    refine wa_getR fl_X12_119 k_v0 rfl E d_X12_hold_37 ?_
    refine wa_iload_n 2 rfl E d_X12_hold_40 ?_
    obtain ⟨g_2, h⟩ := kf_gd h
    refine wa_iald (kf_wtf hty 51 49 k_v0 (by decide) rfl) g_2 E d_X12_hold_41 ?_
    obtain ⟨g_3, h⟩ := kf_gd h
    obtain ⟨σ_4, eσ_4, h⟩ := kf_lte h
    refine wa_iast (kf_wtf hty 65 49 k_v0 (by decide) rfl) g_3 E d_X12_hold_42 eσ_4 ?_
    obtain ⟨v2_5, ev2_5, h⟩ := kf_lte h
    refine wa_iinc (lv' := [(2, .int v2_5), (0, .ref (kf_ad G v0)), (1, .int v1)]) v2_5 2 rfl (kf_inc ic_1 ev2_5) (by decide) rfl E d_X12_hold_43 ?_
    refine wa_goto E d_X12_hold_46 ?_
    refine wa_sub [1, 2, 0] rfl ?_
    exact hrec20 v0 v1 v2_5 k_v0 σ_4 h
theorem b_X12_hold_20 {X : kf_X} {G : kf_G} {q : (Int32 × kf_St)} (E : kf_ok X G cX12_hold RX12 3 (some .boolean) (2)) (hty : kf_wt G) : ∀ (N : Nat) (v0 : Nat) (v1 : Int32) (v2 : Int32) (k_v0 : kf_kd G v0 = 13) (σ : kf_St) (_ : f_X12_hold_20 N v0 v1 v2 σ = some q), kf_WA X G 3 (kf_Q X G (some (.int q.1)) q.2) 20 [(0, .ref (kf_ad G v0)), (1, .int v1), (2, .int v2)] [] σ
  | 0, _, _, _, _, _, h => by cases h
  | N + 1, v0, v1, v2, k_v0, σ, h => b_X12_hold_20_s _ E hty (b_X12_hold_20 E hty N) v0 v1 v2 k_v0 σ h
def f_X12_hold (v0 : Nat) (v1 : Int32) (σ : kf_St) : Option (Int32 × kf_St) :=
  (f_X12_in v1 0 2 σ).bind fun q_1 =>
  if q_1.1 = 0 then
    some (0, q_1.2)
  else
    if kf_ix v1 (kf_ln (kf_rf v0 64)) = true then
    kf_lt (kf_wi q_1.2 (kf_rf v0 64) (Int32.toNatClampNeg v1) (vp_nar .boolean 1)) fun σ_4 =>
    f_X12_hold_20 kf_F v0 v1 0 σ_4
    else none
set_option maxRecDepth 100000 in
set_option maxHeartbeats 4000000 in
theorem c_X12_hold {G : kf_G} (hty : kf_wt G) (v0 : Nat) (v1 : Int32) (k_v0 : kf_kd G v0 = 13) (σ : kf_St) {q : (Int32 × kf_St)} (h : f_X12_hold v0 v1 σ = some q) : kf_Ct (2) yX12_hold cX12_hold 3 (some .boolean) G [.ref (kf_ad G v0), .int v1] σ (some (.int q.1)) q.2 := by
  refine kf_Ct.of hty.1 (lv := [(0, .ref (kf_ad G v0)), (1, .int v1)]) (by decide +kernel) rfl (Nat.le_of_ble_eq_true rfl) (fun X E => ?_)
  unfold f_X12_hold at h
  refine wa_iload_n 1 rfl E d_X12_hold_0 ?_
  refine wa_iconst 0 ic_0 E d_X12_hold_1 ?_
  refine wa_iconst 2 ic_2 E d_X12_hold_2 ?_
  obtain ⟨q_1, hq_1, h⟩ := kf_bd h
  refine wa_callS (st2 := [.int q_1.1]) (c_X12_in hty v1 0 2 σ hq_1) mt_X12_in ml_X12_313 rfl (Nat.le_of_ble_eq_true rfl) rfl (Nat.le_of_ble_eq_true rfl) E d_X12_hold_3 rfl ?_
  refine wa_if_ne E d_X12_hold_6 (fun c_2 => ?_) (fun c_2 => ?_)
  · replace h := kf_iff c_2 h
    refine wa_aload_n 0 rfl E d_X12_hold_11 ?_
    refine wa_getR fl_X12_146 k_v0 rfl E d_X12_hold_12 ?_
    refine wa_iload_n 1 rfl E d_X12_hold_15 ?_
    refine wa_iconst 1 ic_1 E d_X12_hold_16 ?_
    obtain ⟨g_3, h⟩ := kf_gd h
    obtain ⟨σ_4, eσ_4, h⟩ := kf_lte h
    refine wa_zast (kf_wtf hty 64 52 k_v0 (by decide) rfl) g_3 E d_X12_hold_17 eσ_4 ?_
    refine wa_iconst 0 ic_0 E d_X12_hold_18 ?_
    refine wa_istore_n (lv' := [(2, .int 0), (0, .ref (kf_ad G v0)), (1, .int v1)]) rfl (by decide) rfl E d_X12_hold_19 ?_
    refine wa_sub [1, 2, 0] rfl ?_
    exact b_X12_hold_20 E hty kf_F v0 v1 0 k_v0 σ_4 h
  · replace h := kf_ift c_2 h
    refine wa_iconst 0 ic_0 E d_X12_hold_9 ?_
    cases h
    exact wa_zret kf_z0 E d_X12_hold_10
/-! X12_restore -/
theorem d_X12_restore_0 : kf_dq cX12_restore 0 1 1 (.iload_n 1) := ⟨by decide +kernel, rfl⟩
theorem d_X12_restore_1 : kf_dq cX12_restore 1 2 1 (.iconst 0) := ⟨by decide +kernel, rfl⟩
theorem d_X12_restore_2 : kf_dq cX12_restore 2 3 1 (.iconst 2) := ⟨by decide +kernel, rfl⟩
theorem d_X12_restore_3 : kf_dq cX12_restore 3 6 3 (.invokestatic 313) := ⟨by decide +kernel, rfl⟩
theorem d_X12_restore_6 : kf_dj cX12_restore 6 9 18 (.ifCond .eq) := ⟨12, by decide +kernel, rfl, by decide⟩
theorem d_X12_restore_9 : kf_dq cX12_restore 9 10 1 (.aload_n 0) := ⟨by decide +kernel, rfl⟩
theorem d_X12_restore_10 : kf_dq cX12_restore 10 13 3 (.getfield 146) := ⟨by decide +kernel, rfl⟩
theorem d_X12_restore_13 : kf_dq cX12_restore 13 14 1 (.iload_n 1) := ⟨by decide +kernel, rfl⟩
theorem d_X12_restore_14 : kf_dq cX12_restore 14 15 1 (.baload) := ⟨by decide +kernel, rfl⟩
theorem d_X12_restore_15 : kf_dj cX12_restore 15 18 20 (.ifCond .ne) := ⟨5, by decide +kernel, rfl, by decide⟩
theorem d_X12_restore_18 : kf_dq cX12_restore 18 19 1 (.iconst 0) := ⟨by decide +kernel, rfl⟩
theorem d_X12_restore_19 : kf_dq cX12_restore 19 20 1 (.ireturn) := ⟨by decide +kernel, rfl⟩
theorem d_X12_restore_20 : kf_dq cX12_restore 20 21 1 (.iconst 0) := ⟨by decide +kernel, rfl⟩
theorem d_X12_restore_21 : kf_dq cX12_restore 21 22 1 (.istore_n 2) := ⟨by decide +kernel, rfl⟩
theorem d_X12_restore_22 : kf_dq cX12_restore 22 23 1 (.iload_n 2) := ⟨by decide +kernel, rfl⟩
theorem d_X12_restore_23 : kf_dq cX12_restore 23 25 2 (.bipush 70) := ⟨by decide +kernel, rfl⟩
theorem d_X12_restore_25 : kf_dj cX12_restore 25 28 51 (.if_icmp .ge) := ⟨26, by decide +kernel, rfl, by decide⟩
theorem d_X12_restore_28 : kf_dq cX12_restore 28 29 1 (.aload_n 0) := ⟨by decide +kernel, rfl⟩
theorem d_X12_restore_29 : kf_dq cX12_restore 29 32 3 (.getfield 119) := ⟨by decide +kernel, rfl⟩
theorem d_X12_restore_32 : kf_dq cX12_restore 32 33 1 (.iload_n 2) := ⟨by decide +kernel, rfl⟩
theorem d_X12_restore_33 : kf_dq cX12_restore 33 34 1 (.aload_n 0) := ⟨by decide +kernel, rfl⟩
theorem d_X12_restore_34 : kf_dq cX12_restore 34 37 3 (.getfield 149) := ⟨by decide +kernel, rfl⟩
theorem d_X12_restore_37 : kf_dq cX12_restore 37 39 2 (.bipush 70) := ⟨by decide +kernel, rfl⟩
theorem d_X12_restore_39 : kf_dq cX12_restore 39 40 1 (.iload_n 1) := ⟨by decide +kernel, rfl⟩
theorem d_X12_restore_40 : kf_dq cX12_restore 40 41 1 (.imul) := ⟨by decide +kernel, rfl⟩
theorem d_X12_restore_41 : kf_dq cX12_restore 41 42 1 (.iload_n 2) := ⟨by decide +kernel, rfl⟩
theorem d_X12_restore_42 : kf_dq cX12_restore 42 43 1 (.iadd) := ⟨by decide +kernel, rfl⟩
theorem d_X12_restore_43 : kf_dq cX12_restore 43 44 1 (.iaload) := ⟨by decide +kernel, rfl⟩
theorem d_X12_restore_44 : kf_dq cX12_restore 44 45 1 (.iastore) := ⟨by decide +kernel, rfl⟩
theorem d_X12_restore_45 : kf_dq cX12_restore 45 48 3 (.iinc 2 1) := ⟨by decide +kernel, rfl⟩
theorem d_X12_restore_48 : kf_dj cX12_restore 48 51 22 .goto := ⟨(-26), by decide +kernel, rfl, by decide⟩
theorem d_X12_restore_51 : kf_dq cX12_restore 51 52 1 (.aload_n 0) := ⟨by decide +kernel, rfl⟩
theorem d_X12_restore_52 : kf_dq cX12_restore 52 53 1 (.iconst 0) := ⟨by decide +kernel, rfl⟩
theorem d_X12_restore_53 : kf_dq cX12_restore 53 56 3 (.putfield 251) := ⟨by decide +kernel, rfl⟩
theorem d_X12_restore_56 : kf_dq cX12_restore 56 57 1 (.iconst 1) := ⟨by decide +kernel, rfl⟩
theorem d_X12_restore_57 : kf_dq cX12_restore 57 58 1 (.ireturn) := ⟨by decide +kernel, rfl⟩
def f_X12_restore_22_s (rec22 : Nat → Int32 → Int32 → kf_St → Option (Int32 × kf_St)) (v0 : Nat) (v1 : Int32) (v2 : Int32) (σ : kf_St) : Option (Int32 × kf_St) :=
  if 70 ≤ v2 then
    kf_lt (kf_wi σ v0 56 0) fun σ_2 =>
    some (1, σ_2)
  else
    if kf_ix ((70 * v1) + v2) (kf_ln (kf_rf v0 65)) = true then
    if kf_ix v2 (kf_ln (kf_rf v0 51)) = true then
    kf_lt (kf_wi σ (kf_rf v0 51) (Int32.toNatClampNeg v2) (σ.1 (kf_rf v0 65) (Int32.toNatClampNeg ((70 * v1) + v2)))) fun σ_5 =>
    kf_lt (v2 + 1) fun v2_6 =>
    rec22 v0 v1 v2_6 σ_5
    else none
    else none
def f_X12_restore_22 : Nat → Nat → Int32 → Int32 → kf_St → Option (Int32 × kf_St)
  | 0, _, _, _, _ => none
  | n + 1, v0, v1, v2, σ => f_X12_restore_22_s (f_X12_restore_22 n) v0 v1 v2 σ
set_option maxRecDepth 100000 in
set_option maxHeartbeats 4000000 in
theorem b_X12_restore_22_s {X : kf_X} {G : kf_G} (rec22 : Nat → Int32 → Int32 → kf_St → Option (Int32 × kf_St)) {q : (Int32 × kf_St)} (E : kf_ok X G cX12_restore RX12 3 (some .boolean) (2)) (hty : kf_wt G) (hrec22 : ∀ (v0 : Nat) (v1 : Int32) (v2 : Int32) (k_v0 : kf_kd G v0 = 13) (σ : kf_St), rec22 v0 v1 v2 σ = some q → kf_WA X G 3 (kf_Q X G (some (.int q.1)) q.2) 22 [(0, .ref (kf_ad G v0)), (1, .int v1), (2, .int v2)] [] σ) (v0 : Nat) (v1 : Int32) (v2 : Int32) (k_v0 : kf_kd G v0 = 13) (σ : kf_St) (h : f_X12_restore_22_s rec22 v0 v1 v2 σ = some q) : kf_WA X G 3 (kf_Q X G (some (.int q.1)) q.2) 22 [(0, .ref (kf_ad G v0)), (1, .int v1), (2, .int v2)] [] σ := by
  unfold f_X12_restore_22_s at h
  refine wa_iload_n 2 rfl E d_X12_restore_22 ?_
  refine wa_bipush 70 bp_70 E d_X12_restore_23 ?_
  refine wa_icmp_ge E d_X12_restore_25 (fun c_1 => ?_) (fun c_1 => ?_)
  · replace h := kf_ift c_1 h
    refine wa_aload_n 0 rfl E d_X12_restore_51 ?_
    refine wa_iconst 0 ic_0 E d_X12_restore_52 ?_
    obtain ⟨σ_2, eσ_2, h⟩ := kf_lte h
    refine wa_putI fl_X12_251 fp_12_56 k_v0 rfl (by decide) rfl rfl E d_X12_restore_53 eσ_2 ?_
    refine wa_iconst 1 ic_1 E d_X12_restore_56 ?_
    cases h
    exact wa_zret kf_z1 E d_X12_restore_57
  · replace h := kf_iff c_1 h
    refine wa_aload_n 0 rfl E d_X12_restore_28 ?_
    refine wa_getR fl_X12_119 k_v0 rfl E d_X12_restore_29 ?_
    refine wa_iload_n 2 rfl E d_X12_restore_32 ?_
    refine wa_aload_n 0 rfl E d_X12_restore_33 ?_
    refine wa_getR fl_X12_149 k_v0 rfl E d_X12_restore_34 ?_
    refine wa_bipush 70 bp_70 E d_X12_restore_37 ?_
    refine wa_iload_n 1 rfl E d_X12_restore_39 ?_
    refine wa_imul E d_X12_restore_40 ?_
    refine wa_iload_n 2 rfl E d_X12_restore_41 ?_
    refine wa_iadd E d_X12_restore_42 ?_
    obtain ⟨g_3, h⟩ := kf_gd h
    refine wa_iald (kf_wtf hty 65 49 k_v0 (by decide) rfl) g_3 E d_X12_restore_43 ?_
    obtain ⟨g_4, h⟩ := kf_gd h
    obtain ⟨σ_5, eσ_5, h⟩ := kf_lte h
    refine wa_iast (kf_wtf hty 51 49 k_v0 (by decide) rfl) g_4 E d_X12_restore_44 eσ_5 ?_
    obtain ⟨v2_6, ev2_6, h⟩ := kf_lte h
    refine wa_iinc (lv' := [(2, .int v2_6), (0, .ref (kf_ad G v0)), (1, .int v1)]) v2_6 2 rfl (kf_inc ic_1 ev2_6) (by decide) rfl E d_X12_restore_45 ?_
    refine wa_goto E d_X12_restore_48 ?_
    refine wa_sub [1, 2, 0] rfl ?_
    exact hrec22 v0 v1 v2_6 k_v0 σ_5 h
theorem b_X12_restore_22 {X : kf_X} {G : kf_G} {q : (Int32 × kf_St)} (E : kf_ok X G cX12_restore RX12 3 (some .boolean) (2)) (hty : kf_wt G) : ∀ (N : Nat) (v0 : Nat) (v1 : Int32) (v2 : Int32) (k_v0 : kf_kd G v0 = 13) (σ : kf_St) (_ : f_X12_restore_22 N v0 v1 v2 σ = some q), kf_WA X G 3 (kf_Q X G (some (.int q.1)) q.2) 22 [(0, .ref (kf_ad G v0)), (1, .int v1), (2, .int v2)] [] σ
  | 0, _, _, _, _, _, h => by cases h
  | N + 1, v0, v1, v2, k_v0, σ, h => b_X12_restore_22_s _ E hty (b_X12_restore_22 E hty N) v0 v1 v2 k_v0 σ h
def f_X12_restore (v0 : Nat) (v1 : Int32) (σ : kf_St) : Option (Int32 × kf_St) :=
  (f_X12_in v1 0 2 σ).bind fun q_1 =>
  if q_1.1 = 0 then
    some (0, q_1.2)
  else
    if kf_ix v1 (kf_ln (kf_rf v0 64)) = true then
    if (q_1.2.1 (kf_rf v0 64) (Int32.toNatClampNeg v1)) = 0 then
      some (0, q_1.2)
    else
      f_X12_restore_22 kf_F v0 v1 0 q_1.2
    else none
set_option maxRecDepth 100000 in
set_option maxHeartbeats 4000000 in
theorem c_X12_restore {G : kf_G} (hty : kf_wt G) (v0 : Nat) (v1 : Int32) (k_v0 : kf_kd G v0 = 13) (σ : kf_St) {q : (Int32 × kf_St)} (h : f_X12_restore v0 v1 σ = some q) : kf_Ct (2) yX12_restore cX12_restore 3 (some .boolean) G [.ref (kf_ad G v0), .int v1] σ (some (.int q.1)) q.2 := by
  refine kf_Ct.of hty.1 (lv := [(0, .ref (kf_ad G v0)), (1, .int v1)]) (by decide +kernel) rfl (Nat.le_of_ble_eq_true rfl) (fun X E => ?_)
  unfold f_X12_restore at h
  refine wa_iload_n 1 rfl E d_X12_restore_0 ?_
  refine wa_iconst 0 ic_0 E d_X12_restore_1 ?_
  refine wa_iconst 2 ic_2 E d_X12_restore_2 ?_
  obtain ⟨q_1, hq_1, h⟩ := kf_bd h
  refine wa_callS (st2 := [.int q_1.1]) (c_X12_in hty v1 0 2 σ hq_1) mt_X12_in ml_X12_313 rfl (Nat.le_of_ble_eq_true rfl) rfl (Nat.le_of_ble_eq_true rfl) E d_X12_restore_3 rfl ?_
  refine wa_if_eq E d_X12_restore_6 (fun c_2 => ?_) (fun c_2 => ?_)
  · replace h := kf_ift c_2 h
    refine wa_iconst 0 ic_0 E d_X12_restore_18 ?_
    cases h
    exact wa_zret kf_z0 E d_X12_restore_19
  · replace h := kf_iff c_2 h
    refine wa_aload_n 0 rfl E d_X12_restore_9 ?_
    refine wa_getR fl_X12_146 k_v0 rfl E d_X12_restore_10 ?_
    refine wa_iload_n 1 rfl E d_X12_restore_13 ?_
    obtain ⟨g_3, h⟩ := kf_gd h
    refine wa_zald (kf_wtf hty 64 52 k_v0 (by decide) rfl) g_3 E d_X12_restore_14 ?_
    refine wa_if_ne E d_X12_restore_15 (fun c_4 => ?_) (fun c_4 => ?_)
    · replace h := kf_iff c_4 h
      refine wa_iconst 0 ic_0 E d_X12_restore_20 ?_
      refine wa_istore_n (lv' := [(2, .int 0), (0, .ref (kf_ad G v0)), (1, .int v1)]) rfl (by decide) rfl E d_X12_restore_21 ?_
      refine wa_sub [1, 2, 0] rfl ?_
      exact b_X12_restore_22 E hty kf_F v0 v1 0 k_v0 q_1.2 h
    · replace h := kf_ift c_4 h
      refine wa_iconst 0 ic_0 E d_X12_restore_18 ?_
      cases h
      exact wa_zret kf_z0 E d_X12_restore_19
/-! X12_sumNow -/
theorem d_X12_sumNow_0 : kf_dq cX12_sumNow 0 1 1 (.iconst 0) := ⟨by decide +kernel, rfl⟩
theorem d_X12_sumNow_1 : kf_dq cX12_sumNow 1 2 1 (.istore_n 3) := ⟨by decide +kernel, rfl⟩
theorem d_X12_sumNow_2 : kf_dq cX12_sumNow 2 3 1 (.iload_n 1) := ⟨by decide +kernel, rfl⟩
theorem d_X12_sumNow_3 : kf_dq cX12_sumNow 3 5 2 (.istore 4) := ⟨by decide +kernel, rfl⟩
theorem d_X12_sumNow_5 : kf_dq cX12_sumNow 5 7 2 (.iload 4) := ⟨by decide +kernel, rfl⟩
theorem d_X12_sumNow_7 : kf_dq cX12_sumNow 7 8 1 (.iload_n 1) := ⟨by decide +kernel, rfl⟩
theorem d_X12_sumNow_8 : kf_dq cX12_sumNow 8 9 1 (.iload_n 2) := ⟨by decide +kernel, rfl⟩
theorem d_X12_sumNow_9 : kf_dq cX12_sumNow 9 10 1 (.iadd) := ⟨by decide +kernel, rfl⟩
theorem d_X12_sumNow_10 : kf_dj cX12_sumNow 10 13 29 (.if_icmp .ge) := ⟨19, by decide +kernel, rfl, by decide⟩
theorem d_X12_sumNow_13 : kf_dq cX12_sumNow 13 14 1 (.iload_n 3) := ⟨by decide +kernel, rfl⟩
theorem d_X12_sumNow_14 : kf_dq cX12_sumNow 14 15 1 (.aload_n 0) := ⟨by decide +kernel, rfl⟩
theorem d_X12_sumNow_15 : kf_dq cX12_sumNow 15 18 3 (.getfield 119) := ⟨by decide +kernel, rfl⟩
theorem d_X12_sumNow_18 : kf_dq cX12_sumNow 18 20 2 (.iload 4) := ⟨by decide +kernel, rfl⟩
theorem d_X12_sumNow_20 : kf_dq cX12_sumNow 20 21 1 (.iaload) := ⟨by decide +kernel, rfl⟩
theorem d_X12_sumNow_21 : kf_dq cX12_sumNow 21 22 1 (.iadd) := ⟨by decide +kernel, rfl⟩
theorem d_X12_sumNow_22 : kf_dq cX12_sumNow 22 23 1 (.istore_n 3) := ⟨by decide +kernel, rfl⟩
theorem d_X12_sumNow_23 : kf_dq cX12_sumNow 23 26 3 (.iinc 4 1) := ⟨by decide +kernel, rfl⟩
theorem d_X12_sumNow_26 : kf_dj cX12_sumNow 26 29 5 .goto := ⟨(-21), by decide +kernel, rfl, by decide⟩
theorem d_X12_sumNow_29 : kf_dq cX12_sumNow 29 30 1 (.iload_n 3) := ⟨by decide +kernel, rfl⟩
theorem d_X12_sumNow_30 : kf_dq cX12_sumNow 30 31 1 (.ireturn) := ⟨by decide +kernel, rfl⟩
def f_X12_sumNow_5_s (rec5 : Nat → Int32 → Int32 → Int32 → Int32 → kf_St → Option (Int32 × kf_St)) (v0 : Nat) (v1 : Int32) (v2 : Int32) (v3 : Int32) (v4 : Int32) (σ : kf_St) : Option (Int32 × kf_St) :=
  if (v1 + v2) ≤ v4 then
    some (v3, σ)
  else
    if kf_ix v4 (kf_ln (kf_rf v0 51)) = true then
    kf_lt ((v3 + (σ.1 (kf_rf v0 51) (Int32.toNatClampNeg v4)))) fun v3_3 =>
    kf_lt (v4 + 1) fun v4_4 =>
    rec5 v0 v1 v2 v3_3 v4_4 σ
    else none
def f_X12_sumNow_5 : Nat → Nat → Int32 → Int32 → Int32 → Int32 → kf_St → Option (Int32 × kf_St)
  | 0, _, _, _, _, _, _ => none
  | n + 1, v0, v1, v2, v3, v4, σ => f_X12_sumNow_5_s (f_X12_sumNow_5 n) v0 v1 v2 v3 v4 σ
set_option maxRecDepth 100000 in
set_option maxHeartbeats 4000000 in
theorem b_X12_sumNow_5_s {X : kf_X} {G : kf_G} (rec5 : Nat → Int32 → Int32 → Int32 → Int32 → kf_St → Option (Int32 × kf_St)) {q : (Int32 × kf_St)} (E : kf_ok X G cX12_sumNow RX12 5 (some .int) (1)) (hty : kf_wt G) (hrec5 : ∀ (v0 : Nat) (v1 : Int32) (v2 : Int32) (v3 : Int32) (v4 : Int32) (k_v0 : kf_kd G v0 = 13) (σ : kf_St), rec5 v0 v1 v2 v3 v4 σ = some q → kf_WA X G 5 (kf_Q X G (some (.int q.1)) q.2) 5 [(0, .ref (kf_ad G v0)), (1, .int v1), (2, .int v2), (3, .int v3), (4, .int v4)] [] σ) (v0 : Nat) (v1 : Int32) (v2 : Int32) (v3 : Int32) (v4 : Int32) (k_v0 : kf_kd G v0 = 13) (σ : kf_St) (h : f_X12_sumNow_5_s rec5 v0 v1 v2 v3 v4 σ = some q) : kf_WA X G 5 (kf_Q X G (some (.int q.1)) q.2) 5 [(0, .ref (kf_ad G v0)), (1, .int v1), (2, .int v2), (3, .int v3), (4, .int v4)] [] σ := by
  unfold f_X12_sumNow_5_s at h
  refine wa_iload 4 rfl E d_X12_sumNow_5 ?_
  refine wa_iload_n 1 rfl E d_X12_sumNow_7 ?_
  refine wa_iload_n 2 rfl E d_X12_sumNow_8 ?_
  refine wa_iadd E d_X12_sumNow_9 ?_
  refine wa_icmp_ge E d_X12_sumNow_10 (fun c_1 => ?_) (fun c_1 => ?_)
  · replace h := kf_ift c_1 h
    refine wa_iload_n 3 rfl E d_X12_sumNow_29 ?_
    cases h
    exact wa_iret E d_X12_sumNow_30
  · replace h := kf_iff c_1 h
    refine wa_iload_n 3 rfl E d_X12_sumNow_13 ?_
    refine wa_aload_n 0 rfl E d_X12_sumNow_14 ?_
    refine wa_getR fl_X12_119 k_v0 rfl E d_X12_sumNow_15 ?_
    refine wa_iload 4 rfl E d_X12_sumNow_18 ?_
    obtain ⟨g_2, h⟩ := kf_gd h
    refine wa_iald (kf_wtf hty 51 49 k_v0 (by decide) rfl) g_2 E d_X12_sumNow_20 ?_
    refine wa_iadd E d_X12_sumNow_21 ?_
    obtain ⟨v3_3, ev3_3, h⟩ := kf_lte h
    refine wa_topi ev3_3 ?_
    refine wa_istore_n (lv' := [(3, .int v3_3), (0, .ref (kf_ad G v0)), (1, .int v1), (2, .int v2), (4, .int v4)]) rfl (by decide) rfl E d_X12_sumNow_22 ?_
    obtain ⟨v4_4, ev4_4, h⟩ := kf_lte h
    refine wa_iinc (lv' := [(4, .int v4_4), (3, .int v3_3), (0, .ref (kf_ad G v0)), (1, .int v1), (2, .int v2)]) v4_4 4 rfl (kf_inc ic_1 ev4_4) (by decide) rfl E d_X12_sumNow_23 ?_
    refine wa_goto E d_X12_sumNow_26 ?_
    refine wa_sub [2, 3, 4, 1, 0] rfl ?_
    exact hrec5 v0 v1 v2 v3_3 v4_4 k_v0 σ h
theorem b_X12_sumNow_5 {X : kf_X} {G : kf_G} {q : (Int32 × kf_St)} (E : kf_ok X G cX12_sumNow RX12 5 (some .int) (1)) (hty : kf_wt G) : ∀ (N : Nat) (v0 : Nat) (v1 : Int32) (v2 : Int32) (v3 : Int32) (v4 : Int32) (k_v0 : kf_kd G v0 = 13) (σ : kf_St) (_ : f_X12_sumNow_5 N v0 v1 v2 v3 v4 σ = some q), kf_WA X G 5 (kf_Q X G (some (.int q.1)) q.2) 5 [(0, .ref (kf_ad G v0)), (1, .int v1), (2, .int v2), (3, .int v3), (4, .int v4)] [] σ
  | 0, _, _, _, _, _, _, _, h => by cases h
  | N + 1, v0, v1, v2, v3, v4, k_v0, σ, h => b_X12_sumNow_5_s _ E hty (b_X12_sumNow_5 E hty N) v0 v1 v2 v3 v4 k_v0 σ h
def f_X12_sumNow (v0 : Nat) (v1 : Int32) (v2 : Int32) (σ : kf_St) : Option (Int32 × kf_St) :=
  f_X12_sumNow_5 kf_F v0 v1 v2 0 v1 σ
set_option maxRecDepth 100000 in
set_option maxHeartbeats 4000000 in
theorem c_X12_sumNow {G : kf_G} (hty : kf_wt G) (v0 : Nat) (v1 : Int32) (v2 : Int32) (k_v0 : kf_kd G v0 = 13) (σ : kf_St) {q : (Int32 × kf_St)} (h : f_X12_sumNow v0 v1 v2 σ = some q) : kf_Ct (1) yX12_sumNow cX12_sumNow 5 (some .int) G [.ref (kf_ad G v0), .int v1, .int v2] σ (some (.int q.1)) q.2 := by
  refine kf_Ct.of hty.1 (lv := [(0, .ref (kf_ad G v0)), (1, .int v1), (2, .int v2)]) (by decide +kernel) rfl (Nat.le_of_ble_eq_true rfl) (fun X E => ?_)
  unfold f_X12_sumNow at h
  refine wa_iconst 0 ic_0 E d_X12_sumNow_0 ?_
  refine wa_istore_n (lv' := [(3, .int 0), (0, .ref (kf_ad G v0)), (1, .int v1), (2, .int v2)]) rfl (by decide) rfl E d_X12_sumNow_1 ?_
  refine wa_iload_n 2 rfl E d_X12_sumNow_2 ?_
  refine wa_istore (lv' := [(4, .int v1), (3, .int 0), (0, .ref (kf_ad G v0)), (1, .int v1), (2, .int v2)]) (by decide) rfl E d_X12_sumNow_3 ?_
  refine wa_sub [2, 3, 4, 1, 0] rfl ?_
  exact b_X12_sumNow_5 E hty kf_F v0 v1 v2 0 v1 k_v0 σ h
/-! X12_count -/
theorem d_X12_count_0 : kf_dq cX12_count 0 1 1 (.aload_n 0) := ⟨by decide +kernel, rfl⟩
theorem d_X12_count_1 : kf_dq cX12_count 1 4 3 (.invokevirtual 323) := ⟨by decide +kernel, rfl⟩
theorem d_X12_count_4 : kf_dq cX12_count 4 5 1 (.iconst 0) := ⟨by decide +kernel, rfl⟩
theorem d_X12_count_5 : kf_dq cX12_count 5 6 1 (.istore_n 2) := ⟨by decide +kernel, rfl⟩
theorem d_X12_count_6 : kf_dq cX12_count 6 7 1 (.iload_n 1) := ⟨by decide +kernel, rfl⟩
theorem d_X12_count_7 : decode cX12_count 7 = .ok (.tableswitch 415 0 16 #[81, 91, 101, 111, 119, 156, 165, 174, 211, 216, 221, 226, 271, 284, 328, 365, 406], 81) := by decide +kernel
theorem d_X12_count_88 : kf_dq cX12_count 88 89 1 (.aload_n 0) := ⟨by decide +kernel, rfl⟩
theorem d_X12_count_89 : kf_dq cX12_count 89 92 3 (.getfield 46) := ⟨by decide +kernel, rfl⟩
theorem d_X12_count_92 : kf_dq cX12_count 92 93 1 (.aload_n 0) := ⟨by decide +kernel, rfl⟩
theorem d_X12_count_93 : kf_dq cX12_count 93 96 3 (.getfield 233) := ⟨by decide +kernel, rfl⟩
theorem d_X12_count_96 : kf_dq cX12_count 96 97 1 (.iaload) := ⟨by decide +kernel, rfl⟩
theorem d_X12_count_97 : kf_dq cX12_count 97 98 1 (.ireturn) := ⟨by decide +kernel, rfl⟩
theorem d_X12_count_98 : kf_dq cX12_count 98 99 1 (.aload_n 0) := ⟨by decide +kernel, rfl⟩
theorem d_X12_count_99 : kf_dq cX12_count 99 102 3 (.getfield 52) := ⟨by decide +kernel, rfl⟩
theorem d_X12_count_102 : kf_dq cX12_count 102 103 1 (.aload_n 0) := ⟨by decide +kernel, rfl⟩
theorem d_X12_count_103 : kf_dq cX12_count 103 106 3 (.getfield 233) := ⟨by decide +kernel, rfl⟩
theorem d_X12_count_106 : kf_dq cX12_count 106 107 1 (.iaload) := ⟨by decide +kernel, rfl⟩
theorem d_X12_count_107 : kf_dq cX12_count 107 108 1 (.ireturn) := ⟨by decide +kernel, rfl⟩
theorem d_X12_count_108 : kf_dq cX12_count 108 109 1 (.aload_n 0) := ⟨by decide +kernel, rfl⟩
theorem d_X12_count_109 : kf_dq cX12_count 109 112 3 (.getfield 58) := ⟨by decide +kernel, rfl⟩
theorem d_X12_count_112 : kf_dq cX12_count 112 113 1 (.aload_n 0) := ⟨by decide +kernel, rfl⟩
theorem d_X12_count_113 : kf_dq cX12_count 113 116 3 (.getfield 233) := ⟨by decide +kernel, rfl⟩
theorem d_X12_count_116 : kf_dq cX12_count 116 117 1 (.iaload) := ⟨by decide +kernel, rfl⟩
theorem d_X12_count_117 : kf_dq cX12_count 117 118 1 (.ireturn) := ⟨by decide +kernel, rfl⟩
theorem d_X12_count_118 : kf_dq cX12_count 118 119 1 (.aload_n 0) := ⟨by decide +kernel, rfl⟩
theorem d_X12_count_119 : kf_dq cX12_count 119 122 3 (.getfield 122) := ⟨by decide +kernel, rfl⟩
theorem d_X12_count_122 : kf_dq cX12_count 122 124 2 (.bipush 69) := ⟨by decide +kernel, rfl⟩
theorem d_X12_count_124 : kf_dq cX12_count 124 125 1 (.iaload) := ⟨by decide +kernel, rfl⟩
theorem d_X12_count_125 : kf_dq cX12_count 125 126 1 (.ireturn) := ⟨by decide +kernel, rfl⟩
theorem d_X12_count_126 : kf_dq cX12_count 126 127 1 (.iconst 0) := ⟨by decide +kernel, rfl⟩
theorem d_X12_count_127 : kf_dq cX12_count 127 128 1 (.istore_n 3) := ⟨by decide +kernel, rfl⟩
theorem d_X12_count_128 : kf_dq cX12_count 128 129 1 (.iload_n 3) := ⟨by decide +kernel, rfl⟩
theorem d_X12_count_129 : kf_dq cX12_count 129 130 1 (.aload_n 0) := ⟨by decide +kernel, rfl⟩
theorem d_X12_count_130 : kf_dq cX12_count 130 133 3 (.getfield 46) := ⟨by decide +kernel, rfl⟩
theorem d_X12_count_133 : kf_dq cX12_count 133 134 1 (.aload_n 0) := ⟨by decide +kernel, rfl⟩
theorem d_X12_count_134 : kf_dq cX12_count 134 137 3 (.getfield 233) := ⟨by decide +kernel, rfl⟩
theorem d_X12_count_137 : kf_dq cX12_count 137 138 1 (.iaload) := ⟨by decide +kernel, rfl⟩
theorem d_X12_count_138 : kf_dj cX12_count 138 141 161 (.if_icmp .ge) := ⟨23, by decide +kernel, rfl, by decide⟩
theorem d_X12_count_141 : kf_dq cX12_count 141 142 1 (.aload_n 0) := ⟨by decide +kernel, rfl⟩
theorem d_X12_count_142 : kf_dq cX12_count 142 143 1 (.iload_n 3) := ⟨by decide +kernel, rfl⟩
theorem d_X12_count_143 : kf_dq cX12_count 143 146 3 (.invokevirtual 390) := ⟨by decide +kernel, rfl⟩
theorem d_X12_count_146 : kf_dj cX12_count 146 149 155 (.ifCond .lt) := ⟨9, by decide +kernel, rfl, by decide⟩
theorem d_X12_count_149 : kf_dq cX12_count 149 150 1 (.iload_n 2) := ⟨by decide +kernel, rfl⟩
theorem d_X12_count_150 : kf_dq cX12_count 150 151 1 (.iconst 1) := ⟨by decide +kernel, rfl⟩
theorem d_X12_count_151 : kf_dq cX12_count 151 152 1 (.iload_n 3) := ⟨by decide +kernel, rfl⟩
theorem d_X12_count_152 : kf_dq cX12_count 152 153 1 (.ishl) := ⟨by decide +kernel, rfl⟩
theorem d_X12_count_153 : kf_dq cX12_count 153 154 1 (.ior) := ⟨by decide +kernel, rfl⟩
theorem d_X12_count_154 : kf_dq cX12_count 154 155 1 (.istore_n 2) := ⟨by decide +kernel, rfl⟩
theorem d_X12_count_155 : kf_dq cX12_count 155 158 3 (.iinc 3 1) := ⟨by decide +kernel, rfl⟩
theorem d_X12_count_158 : kf_dj cX12_count 158 161 128 .goto := ⟨(-30), by decide +kernel, rfl, by decide⟩
theorem d_X12_count_161 : kf_dq cX12_count 161 162 1 (.iload_n 2) := ⟨by decide +kernel, rfl⟩
theorem d_X12_count_162 : kf_dq cX12_count 162 163 1 (.ireturn) := ⟨by decide +kernel, rfl⟩
theorem d_X12_count_163 : kf_dq cX12_count 163 164 1 (.aload_n 0) := ⟨by decide +kernel, rfl⟩
theorem d_X12_count_164 : kf_dq cX12_count 164 166 2 (.bipush 24) := ⟨by decide +kernel, rfl⟩
theorem d_X12_count_166 : kf_dq cX12_count 166 168 2 (.bipush 6) := ⟨by decide +kernel, rfl⟩
theorem d_X12_count_168 : kf_dq cX12_count 168 171 3 (.invokevirtual 463) := ⟨by decide +kernel, rfl⟩
theorem d_X12_count_171 : kf_dq cX12_count 171 172 1 (.ireturn) := ⟨by decide +kernel, rfl⟩
theorem d_X12_count_172 : kf_dq cX12_count 172 173 1 (.aload_n 0) := ⟨by decide +kernel, rfl⟩
theorem d_X12_count_173 : kf_dq cX12_count 173 175 2 (.bipush 42) := ⟨by decide +kernel, rfl⟩
theorem d_X12_count_175 : kf_dq cX12_count 175 177 2 (.bipush 6) := ⟨by decide +kernel, rfl⟩
theorem d_X12_count_177 : kf_dq cX12_count 177 180 3 (.invokevirtual 463) := ⟨by decide +kernel, rfl⟩
theorem d_X12_count_180 : kf_dq cX12_count 180 181 1 (.ireturn) := ⟨by decide +kernel, rfl⟩
theorem d_X12_count_181 : kf_dq cX12_count 181 182 1 (.iconst 0) := ⟨by decide +kernel, rfl⟩
theorem d_X12_count_182 : kf_dq cX12_count 182 183 1 (.istore_n 3) := ⟨by decide +kernel, rfl⟩
theorem d_X12_count_183 : kf_dq cX12_count 183 184 1 (.iload_n 3) := ⟨by decide +kernel, rfl⟩
theorem d_X12_count_184 : kf_dq cX12_count 184 185 1 (.aload_n 0) := ⟨by decide +kernel, rfl⟩
theorem d_X12_count_185 : kf_dq cX12_count 185 188 3 (.getfield 58) := ⟨by decide +kernel, rfl⟩
theorem d_X12_count_188 : kf_dq cX12_count 188 189 1 (.aload_n 0) := ⟨by decide +kernel, rfl⟩
theorem d_X12_count_189 : kf_dq cX12_count 189 192 3 (.getfield 233) := ⟨by decide +kernel, rfl⟩
theorem d_X12_count_192 : kf_dq cX12_count 192 193 1 (.iaload) := ⟨by decide +kernel, rfl⟩
theorem d_X12_count_193 : kf_dj cX12_count 193 196 216 (.if_icmp .ge) := ⟨23, by decide +kernel, rfl, by decide⟩
theorem d_X12_count_196 : kf_dq cX12_count 196 197 1 (.iload_n 2) := ⟨by decide +kernel, rfl⟩
theorem d_X12_count_197 : kf_dq cX12_count 197 198 1 (.aload_n 0) := ⟨by decide +kernel, rfl⟩
theorem d_X12_count_198 : kf_dq cX12_count 198 201 3 (.getfield 122) := ⟨by decide +kernel, rfl⟩
theorem d_X12_count_201 : kf_dq cX12_count 201 203 2 (.bipush 54) := ⟨by decide +kernel, rfl⟩
theorem d_X12_count_203 : kf_dq cX12_count 203 204 1 (.iload_n 3) := ⟨by decide +kernel, rfl⟩
theorem d_X12_count_204 : kf_dq cX12_count 204 205 1 (.iadd) := ⟨by decide +kernel, rfl⟩
theorem d_X12_count_205 : kf_dq cX12_count 205 206 1 (.iaload) := ⟨by decide +kernel, rfl⟩
theorem d_X12_count_206 : kf_dq cX12_count 206 207 1 (.iload_n 3) := ⟨by decide +kernel, rfl⟩
theorem d_X12_count_207 : kf_dq cX12_count 207 208 1 (.ishl) := ⟨by decide +kernel, rfl⟩
theorem d_X12_count_208 : kf_dq cX12_count 208 209 1 (.ior) := ⟨by decide +kernel, rfl⟩
theorem d_X12_count_209 : kf_dq cX12_count 209 210 1 (.istore_n 2) := ⟨by decide +kernel, rfl⟩
theorem d_X12_count_210 : kf_dq cX12_count 210 213 3 (.iinc 3 1) := ⟨by decide +kernel, rfl⟩
theorem d_X12_count_213 : kf_dj cX12_count 213 216 183 .goto := ⟨(-30), by decide +kernel, rfl, by decide⟩
theorem d_X12_count_216 : kf_dq cX12_count 216 217 1 (.iload_n 2) := ⟨by decide +kernel, rfl⟩
theorem d_X12_count_217 : kf_dq cX12_count 217 218 1 (.ireturn) := ⟨by decide +kernel, rfl⟩
theorem d_X12_count_218 : kf_dq cX12_count 218 219 1 (.aload_n 0) := ⟨by decide +kernel, rfl⟩
theorem d_X12_count_219 : kf_dq cX12_count 219 222 3 (.getfield 166) := ⟨by decide +kernel, rfl⟩
theorem d_X12_count_222 : kf_dq cX12_count 222 223 1 (.ireturn) := ⟨by decide +kernel, rfl⟩
theorem d_X12_count_223 : kf_dq cX12_count 223 224 1 (.aload_n 0) := ⟨by decide +kernel, rfl⟩
theorem d_X12_count_224 : kf_dq cX12_count 224 227 3 (.getfield 251) := ⟨by decide +kernel, rfl⟩
theorem d_X12_count_227 : kf_dq cX12_count 227 228 1 (.ireturn) := ⟨by decide +kernel, rfl⟩
theorem d_X12_count_228 : kf_dq cX12_count 228 229 1 (.aload_n 0) := ⟨by decide +kernel, rfl⟩
theorem d_X12_count_229 : kf_dq cX12_count 229 232 3 (.getfield 254) := ⟨by decide +kernel, rfl⟩
theorem d_X12_count_232 : kf_dq cX12_count 232 233 1 (.ireturn) := ⟨by decide +kernel, rfl⟩
theorem d_X12_count_233 : kf_dq cX12_count 233 234 1 (.aload_n 0) := ⟨by decide +kernel, rfl⟩
theorem d_X12_count_234 : kf_dq cX12_count 234 237 3 (.getfield 146) := ⟨by decide +kernel, rfl⟩
theorem d_X12_count_237 : kf_dq cX12_count 237 238 1 (.iconst 0) := ⟨by decide +kernel, rfl⟩
theorem d_X12_count_238 : kf_dq cX12_count 238 239 1 (.baload) := ⟨by decide +kernel, rfl⟩
theorem d_X12_count_239 : kf_dj cX12_count 239 242 246 (.ifCond .eq) := ⟨7, by decide +kernel, rfl, by decide⟩
theorem d_X12_count_242 : kf_dq cX12_count 242 243 1 (.iconst 1) := ⟨by decide +kernel, rfl⟩
theorem d_X12_count_243 : kf_dj cX12_count 243 246 247 .goto := ⟨4, by decide +kernel, rfl, by decide⟩
theorem d_X12_count_246 : kf_dq cX12_count 246 247 1 (.iconst 0) := ⟨by decide +kernel, rfl⟩
theorem d_X12_count_247 : kf_dq cX12_count 247 248 1 (.aload_n 0) := ⟨by decide +kernel, rfl⟩
theorem d_X12_count_248 : kf_dq cX12_count 248 251 3 (.getfield 146) := ⟨by decide +kernel, rfl⟩
theorem d_X12_count_251 : kf_dq cX12_count 251 252 1 (.iconst 1) := ⟨by decide +kernel, rfl⟩
theorem d_X12_count_252 : kf_dq cX12_count 252 253 1 (.baload) := ⟨by decide +kernel, rfl⟩
theorem d_X12_count_253 : kf_dj cX12_count 253 256 260 (.ifCond .eq) := ⟨7, by decide +kernel, rfl, by decide⟩
theorem d_X12_count_256 : kf_dq cX12_count 256 257 1 (.iconst 1) := ⟨by decide +kernel, rfl⟩
theorem d_X12_count_257 : kf_dj cX12_count 257 260 261 .goto := ⟨4, by decide +kernel, rfl, by decide⟩
theorem d_X12_count_260 : kf_dq cX12_count 260 261 1 (.iconst 0) := ⟨by decide +kernel, rfl⟩
theorem d_X12_count_261 : kf_dq cX12_count 261 262 1 (.iadd) := ⟨by decide +kernel, rfl⟩
theorem d_X12_count_262 : kf_dq cX12_count 262 263 1 (.aload_n 0) := ⟨by decide +kernel, rfl⟩
theorem d_X12_count_263 : kf_dq cX12_count 263 266 3 (.getfield 146) := ⟨by decide +kernel, rfl⟩
theorem d_X12_count_266 : kf_dq cX12_count 266 267 1 (.iconst 2) := ⟨by decide +kernel, rfl⟩
theorem d_X12_count_267 : kf_dq cX12_count 267 268 1 (.baload) := ⟨by decide +kernel, rfl⟩
theorem d_X12_count_268 : kf_dj cX12_count 268 271 275 (.ifCond .eq) := ⟨7, by decide +kernel, rfl, by decide⟩
theorem d_X12_count_271 : kf_dq cX12_count 271 272 1 (.iconst 1) := ⟨by decide +kernel, rfl⟩
theorem d_X12_count_272 : kf_dj cX12_count 272 275 276 .goto := ⟨4, by decide +kernel, rfl, by decide⟩
theorem d_X12_count_275 : kf_dq cX12_count 275 276 1 (.iconst 0) := ⟨by decide +kernel, rfl⟩
theorem d_X12_count_276 : kf_dq cX12_count 276 277 1 (.iadd) := ⟨by decide +kernel, rfl⟩
theorem d_X12_count_277 : kf_dq cX12_count 277 278 1 (.ireturn) := ⟨by decide +kernel, rfl⟩
theorem d_X12_count_278 : kf_dq cX12_count 278 279 1 (.aload_n 0) := ⟨by decide +kernel, rfl⟩
theorem d_X12_count_279 : kf_dq cX12_count 279 282 3 (.invokevirtual 377) := ⟨by decide +kernel, rfl⟩
theorem d_X12_count_282 : kf_dj cX12_count 282 285 289 (.ifCond .eq) := ⟨7, by decide +kernel, rfl, by decide⟩
theorem d_X12_count_285 : kf_dq cX12_count 285 286 1 (.iconst 1) := ⟨by decide +kernel, rfl⟩
theorem d_X12_count_286 : kf_dj cX12_count 286 289 290 .goto := ⟨4, by decide +kernel, rfl, by decide⟩
theorem d_X12_count_289 : kf_dq cX12_count 289 290 1 (.iconst 0) := ⟨by decide +kernel, rfl⟩
theorem d_X12_count_290 : kf_dq cX12_count 290 291 1 (.ireturn) := ⟨by decide +kernel, rfl⟩
theorem d_X12_count_291 : kf_dq cX12_count 291 292 1 (.iconst 0) := ⟨by decide +kernel, rfl⟩
theorem d_X12_count_292 : kf_dq cX12_count 292 293 1 (.istore_n 3) := ⟨by decide +kernel, rfl⟩
theorem d_X12_count_293 : kf_dq cX12_count 293 294 1 (.iload_n 3) := ⟨by decide +kernel, rfl⟩
theorem d_X12_count_294 : kf_dq cX12_count 294 295 1 (.aload_n 0) := ⟨by decide +kernel, rfl⟩
theorem d_X12_count_295 : kf_dq cX12_count 295 298 3 (.getfield 46) := ⟨by decide +kernel, rfl⟩
theorem d_X12_count_298 : kf_dq cX12_count 298 299 1 (.aload_n 0) := ⟨by decide +kernel, rfl⟩
theorem d_X12_count_299 : kf_dq cX12_count 299 302 3 (.getfield 233) := ⟨by decide +kernel, rfl⟩
theorem d_X12_count_302 : kf_dq cX12_count 302 303 1 (.iaload) := ⟨by decide +kernel, rfl⟩
theorem d_X12_count_303 : kf_dj cX12_count 303 306 330 (.if_icmp .ge) := ⟨27, by decide +kernel, rfl, by decide⟩
theorem d_X12_count_306 : kf_dq cX12_count 306 307 1 (.aload_n 0) := ⟨by decide +kernel, rfl⟩
theorem d_X12_count_307 : kf_dq cX12_count 307 308 1 (.iload_n 3) := ⟨by decide +kernel, rfl⟩
theorem d_X12_count_308 : kf_dq cX12_count 308 311 3 (.invokevirtual 390) := ⟨by decide +kernel, rfl⟩
theorem d_X12_count_311 : kf_dj cX12_count 311 314 324 (.ifCond .lt) := ⟨13, by decide +kernel, rfl, by decide⟩
theorem d_X12_count_314 : kf_dq cX12_count 314 315 1 (.iload_n 2) := ⟨by decide +kernel, rfl⟩
theorem d_X12_count_315 : kf_dq cX12_count 315 316 1 (.iconst 1) := ⟨by decide +kernel, rfl⟩
theorem d_X12_count_316 : kf_dq cX12_count 316 317 1 (.aload_n 0) := ⟨by decide +kernel, rfl⟩
theorem d_X12_count_317 : kf_dq cX12_count 317 318 1 (.iload_n 3) := ⟨by decide +kernel, rfl⟩
theorem d_X12_count_318 : kf_dq cX12_count 318 321 3 (.invokevirtual 390) := ⟨by decide +kernel, rfl⟩
theorem d_X12_count_321 : kf_dq cX12_count 321 322 1 (.ishl) := ⟨by decide +kernel, rfl⟩
theorem d_X12_count_322 : kf_dq cX12_count 322 323 1 (.ior) := ⟨by decide +kernel, rfl⟩
theorem d_X12_count_323 : kf_dq cX12_count 323 324 1 (.istore_n 2) := ⟨by decide +kernel, rfl⟩
theorem d_X12_count_324 : kf_dq cX12_count 324 327 3 (.iinc 3 1) := ⟨by decide +kernel, rfl⟩
theorem d_X12_count_327 : kf_dj cX12_count 327 330 293 .goto := ⟨(-34), by decide +kernel, rfl, by decide⟩
theorem d_X12_count_330 : kf_dq cX12_count 330 331 1 (.iload_n 2) := ⟨by decide +kernel, rfl⟩
theorem d_X12_count_331 : kf_dq cX12_count 331 334 3 (.invokestatic 457) := ⟨by decide +kernel, rfl⟩
theorem d_X12_count_334 : kf_dq cX12_count 334 335 1 (.ireturn) := ⟨by decide +kernel, rfl⟩
theorem d_X12_count_335 : kf_dq cX12_count 335 336 1 (.iconst 0) := ⟨by decide +kernel, rfl⟩
theorem d_X12_count_336 : kf_dq cX12_count 336 337 1 (.istore_n 3) := ⟨by decide +kernel, rfl⟩
theorem d_X12_count_337 : kf_dq cX12_count 337 338 1 (.iload_n 3) := ⟨by decide +kernel, rfl⟩
theorem d_X12_count_338 : kf_dq cX12_count 338 339 1 (.aload_n 0) := ⟨by decide +kernel, rfl⟩
theorem d_X12_count_339 : kf_dq cX12_count 339 342 3 (.getfield 46) := ⟨by decide +kernel, rfl⟩
theorem d_X12_count_342 : kf_dq cX12_count 342 343 1 (.aload_n 0) := ⟨by decide +kernel, rfl⟩
theorem d_X12_count_343 : kf_dq cX12_count 343 346 3 (.getfield 233) := ⟨by decide +kernel, rfl⟩
theorem d_X12_count_346 : kf_dq cX12_count 346 347 1 (.iaload) := ⟨by decide +kernel, rfl⟩
theorem d_X12_count_347 : kf_dj cX12_count 347 350 370 (.if_icmp .ge) := ⟨23, by decide +kernel, rfl, by decide⟩
theorem d_X12_count_350 : kf_dq cX12_count 350 351 1 (.aload_n 0) := ⟨by decide +kernel, rfl⟩
theorem d_X12_count_351 : kf_dq cX12_count 351 352 1 (.iload_n 3) := ⟨by decide +kernel, rfl⟩
theorem d_X12_count_352 : kf_dq cX12_count 352 355 3 (.invokevirtual 357) := ⟨by decide +kernel, rfl⟩
theorem d_X12_count_355 : kf_dj cX12_count 355 358 364 (.ifCond .ne) := ⟨9, by decide +kernel, rfl, by decide⟩
theorem d_X12_count_358 : kf_dq cX12_count 358 359 1 (.iload_n 2) := ⟨by decide +kernel, rfl⟩
theorem d_X12_count_359 : kf_dq cX12_count 359 360 1 (.iconst 1) := ⟨by decide +kernel, rfl⟩
theorem d_X12_count_360 : kf_dq cX12_count 360 361 1 (.iload_n 3) := ⟨by decide +kernel, rfl⟩
theorem d_X12_count_361 : kf_dq cX12_count 361 362 1 (.ishl) := ⟨by decide +kernel, rfl⟩
theorem d_X12_count_362 : kf_dq cX12_count 362 363 1 (.ior) := ⟨by decide +kernel, rfl⟩
theorem d_X12_count_363 : kf_dq cX12_count 363 364 1 (.istore_n 2) := ⟨by decide +kernel, rfl⟩
theorem d_X12_count_364 : kf_dq cX12_count 364 367 3 (.iinc 3 1) := ⟨by decide +kernel, rfl⟩
theorem d_X12_count_367 : kf_dj cX12_count 367 370 337 .goto := ⟨(-30), by decide +kernel, rfl, by decide⟩
theorem d_X12_count_370 : kf_dq cX12_count 370 371 1 (.iload_n 2) := ⟨by decide +kernel, rfl⟩
theorem d_X12_count_371 : kf_dq cX12_count 371 372 1 (.ireturn) := ⟨by decide +kernel, rfl⟩
theorem d_X12_count_372 : kf_dq cX12_count 372 373 1 (.iconst 0) := ⟨by decide +kernel, rfl⟩
theorem d_X12_count_373 : kf_dq cX12_count 373 374 1 (.istore_n 3) := ⟨by decide +kernel, rfl⟩
theorem d_X12_count_374 : kf_dq cX12_count 374 375 1 (.iload_n 3) := ⟨by decide +kernel, rfl⟩
theorem d_X12_count_375 : kf_dq cX12_count 375 376 1 (.aload_n 0) := ⟨by decide +kernel, rfl⟩
theorem d_X12_count_376 : kf_dq cX12_count 376 379 3 (.getfield 46) := ⟨by decide +kernel, rfl⟩
theorem d_X12_count_379 : kf_dq cX12_count 379 380 1 (.aload_n 0) := ⟨by decide +kernel, rfl⟩
theorem d_X12_count_380 : kf_dq cX12_count 380 383 3 (.getfield 233) := ⟨by decide +kernel, rfl⟩
theorem d_X12_count_383 : kf_dq cX12_count 383 384 1 (.iaload) := ⟨by decide +kernel, rfl⟩
theorem d_X12_count_384 : kf_dj cX12_count 384 387 411 (.if_icmp .ge) := ⟨27, by decide +kernel, rfl, by decide⟩
theorem d_X12_count_387 : kf_dq cX12_count 387 388 1 (.aload_n 0) := ⟨by decide +kernel, rfl⟩
theorem d_X12_count_388 : kf_dq cX12_count 388 391 3 (.getfield 122) := ⟨by decide +kernel, rfl⟩
theorem d_X12_count_391 : kf_dq cX12_count 391 393 2 (.bipush 30) := ⟨by decide +kernel, rfl⟩
theorem d_X12_count_393 : kf_dq cX12_count 393 394 1 (.iload_n 3) := ⟨by decide +kernel, rfl⟩
theorem d_X12_count_394 : kf_dq cX12_count 394 395 1 (.iadd) := ⟨by decide +kernel, rfl⟩
theorem d_X12_count_395 : kf_dq cX12_count 395 396 1 (.iaload) := ⟨by decide +kernel, rfl⟩
theorem d_X12_count_396 : kf_dj cX12_count 396 399 405 (.ifCond .le) := ⟨9, by decide +kernel, rfl, by decide⟩
theorem d_X12_count_399 : kf_dq cX12_count 399 400 1 (.iload_n 2) := ⟨by decide +kernel, rfl⟩
theorem d_X12_count_400 : kf_dq cX12_count 400 401 1 (.iconst 1) := ⟨by decide +kernel, rfl⟩
theorem d_X12_count_401 : kf_dq cX12_count 401 402 1 (.iload_n 3) := ⟨by decide +kernel, rfl⟩
theorem d_X12_count_402 : kf_dq cX12_count 402 403 1 (.ishl) := ⟨by decide +kernel, rfl⟩
theorem d_X12_count_403 : kf_dq cX12_count 403 404 1 (.ior) := ⟨by decide +kernel, rfl⟩
theorem d_X12_count_404 : kf_dq cX12_count 404 405 1 (.istore_n 2) := ⟨by decide +kernel, rfl⟩
theorem d_X12_count_405 : kf_dq cX12_count 405 408 3 (.iinc 3 1) := ⟨by decide +kernel, rfl⟩
theorem d_X12_count_408 : kf_dj cX12_count 408 411 374 .goto := ⟨(-34), by decide +kernel, rfl, by decide⟩
theorem d_X12_count_411 : kf_dq cX12_count 411 412 1 (.iload_n 2) := ⟨by decide +kernel, rfl⟩
theorem d_X12_count_412 : kf_dq cX12_count 412 413 1 (.ireturn) := ⟨by decide +kernel, rfl⟩
theorem d_X12_count_413 : kf_dq cX12_count 413 414 1 (.aload_n 0) := ⟨by decide +kernel, rfl⟩
theorem d_X12_count_414 : kf_dq cX12_count 414 416 2 (.bipush 36) := ⟨by decide +kernel, rfl⟩
theorem d_X12_count_416 : kf_dq cX12_count 416 418 2 (.bipush 6) := ⟨by decide +kernel, rfl⟩
theorem d_X12_count_418 : kf_dq cX12_count 418 421 3 (.invokevirtual 463) := ⟨by decide +kernel, rfl⟩
theorem d_X12_count_421 : kf_dq cX12_count 421 422 1 (.ireturn) := ⟨by decide +kernel, rfl⟩
theorem d_X12_count_422 : kf_dq cX12_count 422 423 1 (.iconst (-1)) := ⟨by decide +kernel, rfl⟩
theorem d_X12_count_423 : kf_dq cX12_count 423 424 1 (.ireturn) := ⟨by decide +kernel, rfl⟩
def f_X12_count_155 (rec128 : Nat → Int32 → Int32 → kf_St → Option (Int32 × kf_St)) (v0 : Nat) (v2 : Int32) (v3 : Int32) (σ : kf_St) : Option (Int32 × kf_St) :=
  kf_lt (v3 + 1) fun v3_1 =>
  rec128 v0 v2 v3_1 σ
set_option maxRecDepth 100000 in
set_option maxHeartbeats 4000000 in
theorem b_X12_count_155 {X : kf_X} {G : kf_G} {rec128 : Nat → Int32 → Int32 → kf_St → Option (Int32 × kf_St)} {q : (Int32 × kf_St)} (E : kf_ok X G cX12_count RX12 4 (some .int) (4)) (hty : kf_wt G) (hrec128 : ∀ (v0 : Nat) (v2 : Int32) (v3 : Int32) (k_v0 : kf_kd G v0 = 13) (σ : kf_St), rec128 v0 v2 v3 σ = some q → kf_WA X G 4 (kf_Q X G (some (.int q.1)) q.2) 128 [(0, .ref (kf_ad G v0)), (2, .int v2), (3, .int v3)] [] σ) (v0 : Nat) (v2 : Int32) (v3 : Int32) (k_v0 : kf_kd G v0 = 13) (σ : kf_St) (h : f_X12_count_155 rec128 v0 v2 v3 σ = some q) : kf_WA X G 4 (kf_Q X G (some (.int q.1)) q.2) 155 [(0, .ref (kf_ad G v0)), (2, .int v2), (3, .int v3)] [] σ := by
  unfold f_X12_count_155 at h
  obtain ⟨v3_1, ev3_1, h⟩ := kf_lte h
  refine wa_iinc (lv' := [(3, .int v3_1), (0, .ref (kf_ad G v0)), (2, .int v2)]) v3_1 2 rfl (kf_inc ic_1 ev3_1) (by decide) rfl E d_X12_count_155 ?_
  refine wa_goto E d_X12_count_158 ?_
  refine wa_sub [1, 2, 0] rfl ?_
  exact hrec128 v0 v2 v3_1 k_v0 σ h
def f_X12_count_128_s (rec128 : Nat → Int32 → Int32 → kf_St → Option (Int32 × kf_St)) (v0 : Nat) (v2 : Int32) (v3 : Int32) (σ : kf_St) : Option (Int32 × kf_St) :=
  if kf_ix (σ.1 v0 18) (kf_ln (kf_rf v0 23)) = true then
  if (σ.1 (kf_rf v0 23) (Int32.toNatClampNeg (σ.1 v0 18))) ≤ v3 then
    some (v2, σ)
  else
    (f_X12_knownBy v0 v3 σ).bind fun q_3 =>
    if q_3.1 < 0 then
      f_X12_count_155 rec128 v0 v2 v3 q_3.2
    else
      kf_lt ((v2 ||| ((1 : Int32) <<< (v3 &&& 31)))) fun v2_5 =>
      f_X12_count_155 rec128 v0 v2_5 v3 q_3.2
  else none
def f_X12_count_128 : Nat → Nat → Int32 → Int32 → kf_St → Option (Int32 × kf_St)
  | 0, _, _, _, _ => none
  | n + 1, v0, v2, v3, σ => f_X12_count_128_s (f_X12_count_128 n) v0 v2 v3 σ
set_option maxRecDepth 100000 in
set_option maxHeartbeats 4000000 in
theorem b_X12_count_128_s {X : kf_X} {G : kf_G} (rec128 : Nat → Int32 → Int32 → kf_St → Option (Int32 × kf_St)) {q : (Int32 × kf_St)} (E : kf_ok X G cX12_count RX12 4 (some .int) (4)) (hty : kf_wt G) (hrec128 : ∀ (v0 : Nat) (v2 : Int32) (v3 : Int32) (k_v0 : kf_kd G v0 = 13) (σ : kf_St), rec128 v0 v2 v3 σ = some q → kf_WA X G 4 (kf_Q X G (some (.int q.1)) q.2) 128 [(0, .ref (kf_ad G v0)), (2, .int v2), (3, .int v3)] [] σ) (v0 : Nat) (v2 : Int32) (v3 : Int32) (k_v0 : kf_kd G v0 = 13) (σ : kf_St) (h : f_X12_count_128_s rec128 v0 v2 v3 σ = some q) : kf_WA X G 4 (kf_Q X G (some (.int q.1)) q.2) 128 [(0, .ref (kf_ad G v0)), (2, .int v2), (3, .int v3)] [] σ := by
  unfold f_X12_count_128_s at h
  refine wa_iload_n 2 rfl E d_X12_count_128 ?_
  refine wa_aload_n 0 rfl E d_X12_count_129 ?_
  refine wa_getR fl_X12_46 k_v0 rfl E d_X12_count_130 ?_
  refine wa_aload_n 0 rfl E d_X12_count_133 ?_
  refine wa_getI fl_X12_233 k_v0 rfl E d_X12_count_134 ?_
  obtain ⟨g_1, h⟩ := kf_gd h
  refine wa_iald (kf_wtf hty 23 49 k_v0 (by decide) rfl) g_1 E d_X12_count_137 ?_
  refine wa_icmp_ge E d_X12_count_138 (fun c_2 => ?_) (fun c_2 => ?_)
  · replace h := kf_ift c_2 h
    refine wa_iload_n 1 rfl E d_X12_count_161 ?_
    cases h
    exact wa_iret E d_X12_count_162
  · replace h := kf_iff c_2 h
    refine wa_aload_n 0 rfl E d_X12_count_141 ?_
    refine wa_iload_n 2 rfl E d_X12_count_142 ?_
    obtain ⟨q_3, hq_3, h⟩ := kf_bd h
    refine wa_callV (st2 := [.int q_3.1]) (c_X12_knownBy hty v0 v3 k_v0 σ hq_3) mv_X12_knownBy ml_X12_390 k_v0 rfl (Nat.le_of_ble_eq_true rfl) rfl (Nat.le_of_ble_eq_true rfl) E d_X12_count_143 rfl ?_
    refine wa_if_lt E d_X12_count_146 (fun c_4 => ?_) (fun c_4 => ?_)
    · replace h := kf_ift c_4 h
      exact b_X12_count_155 E hty hrec128 v0 v2 v3 k_v0 q_3.2 h
    · replace h := kf_iff c_4 h
      refine wa_iload_n 1 rfl E d_X12_count_149 ?_
      refine wa_iconst 1 ic_1 E d_X12_count_150 ?_
      refine wa_iload_n 2 rfl E d_X12_count_151 ?_
      refine wa_ishl E d_X12_count_152 ?_
      refine wa_ior E d_X12_count_153 ?_
      obtain ⟨v2_5, ev2_5, h⟩ := kf_lte h
      refine wa_topi ev2_5 ?_
      refine wa_istore_n (lv' := [(2, .int v2_5), (0, .ref (kf_ad G v0)), (3, .int v3)]) rfl (by decide) rfl E d_X12_count_154 ?_
      refine wa_sub [1, 0, 2] rfl ?_
      exact b_X12_count_155 E hty hrec128 v0 v2_5 v3 k_v0 q_3.2 h
theorem b_X12_count_128 {X : kf_X} {G : kf_G} {q : (Int32 × kf_St)} (E : kf_ok X G cX12_count RX12 4 (some .int) (4)) (hty : kf_wt G) : ∀ (N : Nat) (v0 : Nat) (v2 : Int32) (v3 : Int32) (k_v0 : kf_kd G v0 = 13) (σ : kf_St) (_ : f_X12_count_128 N v0 v2 v3 σ = some q), kf_WA X G 4 (kf_Q X G (some (.int q.1)) q.2) 128 [(0, .ref (kf_ad G v0)), (2, .int v2), (3, .int v3)] [] σ
  | 0, _, _, _, _, _, h => by cases h
  | N + 1, v0, v2, v3, k_v0, σ, h => b_X12_count_128_s _ E hty (b_X12_count_128 E hty N) v0 v2 v3 k_v0 σ h
def f_X12_count_183_s (rec183 : Nat → Int32 → Int32 → kf_St → Option (Int32 × kf_St)) (v0 : Nat) (v2 : Int32) (v3 : Int32) (σ : kf_St) : Option (Int32 × kf_St) :=
  if kf_ix (σ.1 v0 18) (kf_ln (kf_rf v0 27)) = true then
  if (σ.1 (kf_rf v0 27) (Int32.toNatClampNeg (σ.1 v0 18))) ≤ v3 then
    some (v2, σ)
  else
    if kf_ix (54 + v3) (kf_ln (kf_rf v0 52)) = true then
    kf_lt ((v2 ||| ((σ.1 (kf_rf v0 52) (Int32.toNatClampNeg (54 + v3))) <<< (v3 &&& 31)))) fun v2_4 =>
    kf_lt (v3 + 1) fun v3_5 =>
    rec183 v0 v2_4 v3_5 σ
    else none
  else none
def f_X12_count_183 : Nat → Nat → Int32 → Int32 → kf_St → Option (Int32 × kf_St)
  | 0, _, _, _, _ => none
  | n + 1, v0, v2, v3, σ => f_X12_count_183_s (f_X12_count_183 n) v0 v2 v3 σ
set_option maxRecDepth 100000 in
set_option maxHeartbeats 4000000 in
theorem b_X12_count_183_s {X : kf_X} {G : kf_G} (rec183 : Nat → Int32 → Int32 → kf_St → Option (Int32 × kf_St)) {q : (Int32 × kf_St)} (E : kf_ok X G cX12_count RX12 4 (some .int) (4)) (hty : kf_wt G) (hrec183 : ∀ (v0 : Nat) (v2 : Int32) (v3 : Int32) (k_v0 : kf_kd G v0 = 13) (σ : kf_St), rec183 v0 v2 v3 σ = some q → kf_WA X G 4 (kf_Q X G (some (.int q.1)) q.2) 183 [(0, .ref (kf_ad G v0)), (2, .int v2), (3, .int v3)] [] σ) (v0 : Nat) (v2 : Int32) (v3 : Int32) (k_v0 : kf_kd G v0 = 13) (σ : kf_St) (h : f_X12_count_183_s rec183 v0 v2 v3 σ = some q) : kf_WA X G 4 (kf_Q X G (some (.int q.1)) q.2) 183 [(0, .ref (kf_ad G v0)), (2, .int v2), (3, .int v3)] [] σ := by
  unfold f_X12_count_183_s at h
  refine wa_iload_n 2 rfl E d_X12_count_183 ?_
  refine wa_aload_n 0 rfl E d_X12_count_184 ?_
  refine wa_getR fl_X12_58 k_v0 rfl E d_X12_count_185 ?_
  refine wa_aload_n 0 rfl E d_X12_count_188 ?_
  refine wa_getI fl_X12_233 k_v0 rfl E d_X12_count_189 ?_
  obtain ⟨g_1, h⟩ := kf_gd h
  refine wa_iald (kf_wtf hty 27 49 k_v0 (by decide) rfl) g_1 E d_X12_count_192 ?_
  refine wa_icmp_ge E d_X12_count_193 (fun c_2 => ?_) (fun c_2 => ?_)
  · replace h := kf_ift c_2 h
    refine wa_iload_n 1 rfl E d_X12_count_216 ?_
    cases h
    exact wa_iret E d_X12_count_217
  · replace h := kf_iff c_2 h
    refine wa_iload_n 1 rfl E d_X12_count_196 ?_
    refine wa_aload_n 0 rfl E d_X12_count_197 ?_
    refine wa_getR fl_X12_122 k_v0 rfl E d_X12_count_198 ?_
    refine wa_bipush 54 bp_54 E d_X12_count_201 ?_
    refine wa_iload_n 2 rfl E d_X12_count_203 ?_
    refine wa_iadd E d_X12_count_204 ?_
    obtain ⟨g_3, h⟩ := kf_gd h
    refine wa_iald (kf_wtf hty 52 49 k_v0 (by decide) rfl) g_3 E d_X12_count_205 ?_
    refine wa_iload_n 2 rfl E d_X12_count_206 ?_
    refine wa_ishl E d_X12_count_207 ?_
    refine wa_ior E d_X12_count_208 ?_
    obtain ⟨v2_4, ev2_4, h⟩ := kf_lte h
    refine wa_topi ev2_4 ?_
    refine wa_istore_n (lv' := [(2, .int v2_4), (0, .ref (kf_ad G v0)), (3, .int v3)]) rfl (by decide) rfl E d_X12_count_209 ?_
    obtain ⟨v3_5, ev3_5, h⟩ := kf_lte h
    refine wa_iinc (lv' := [(3, .int v3_5), (2, .int v2_4), (0, .ref (kf_ad G v0))]) v3_5 2 rfl (kf_inc ic_1 ev3_5) (by decide) rfl E d_X12_count_210 ?_
    refine wa_goto E d_X12_count_213 ?_
    refine wa_sub [2, 1, 0] rfl ?_
    exact hrec183 v0 v2_4 v3_5 k_v0 σ h
theorem b_X12_count_183 {X : kf_X} {G : kf_G} {q : (Int32 × kf_St)} (E : kf_ok X G cX12_count RX12 4 (some .int) (4)) (hty : kf_wt G) : ∀ (N : Nat) (v0 : Nat) (v2 : Int32) (v3 : Int32) (k_v0 : kf_kd G v0 = 13) (σ : kf_St) (_ : f_X12_count_183 N v0 v2 v3 σ = some q), kf_WA X G 4 (kf_Q X G (some (.int q.1)) q.2) 183 [(0, .ref (kf_ad G v0)), (2, .int v2), (3, .int v3)] [] σ
  | 0, _, _, _, _, _, h => by cases h
  | N + 1, v0, v2, v3, k_v0, σ, h => b_X12_count_183_s _ E hty (b_X12_count_183 E hty N) v0 v2 v3 k_v0 σ h
def f_X12_count_261 (v0 : Nat) (s0 : Int32) (s1 : Int32) (σ : kf_St) : Option (Int32 × kf_St) :=
  if kf_ix 2 (kf_ln (kf_rf v0 64)) = true then
  if (σ.1 (kf_rf v0 64) (Int32.toNatClampNeg 2)) = 0 then
    some (((s0 + s1) + 0), σ)
  else
    some (((s0 + s1) + 1), σ)
  else none
set_option maxRecDepth 100000 in
set_option maxHeartbeats 4000000 in
theorem b_X12_count_261 {X : kf_X} {G : kf_G} {q : (Int32 × kf_St)} (E : kf_ok X G cX12_count RX12 4 (some .int) (4)) (hty : kf_wt G) (v0 : Nat) (s0 : Int32) (s1 : Int32) (k_v0 : kf_kd G v0 = 13) (σ : kf_St) (h : f_X12_count_261 v0 s0 s1 σ = some q) : kf_WA X G 4 (kf_Q X G (some (.int q.1)) q.2) 261 [(0, .ref (kf_ad G v0))] [.int s1, .int s0] σ := by
  unfold f_X12_count_261 at h
  refine wa_iadd E d_X12_count_261 ?_
  refine wa_aload_n 0 rfl E d_X12_count_262 ?_
  refine wa_getR fl_X12_146 k_v0 rfl E d_X12_count_263 ?_
  refine wa_iconst 2 ic_2 E d_X12_count_266 ?_
  obtain ⟨g_1, h⟩ := kf_gd h
  refine wa_zald (kf_wtf hty 64 52 k_v0 (by decide) rfl) g_1 E d_X12_count_267 ?_
  refine wa_if_eq E d_X12_count_268 (fun c_2 => ?_) (fun c_2 => ?_)
  · replace h := kf_ift c_2 h
    refine wa_iconst 0 ic_0 E d_X12_count_275 ?_
    refine wa_iadd E d_X12_count_276 ?_
    cases h
    exact wa_iret E d_X12_count_277
  · replace h := kf_iff c_2 h
    refine wa_iconst 1 ic_1 E d_X12_count_271 ?_
    refine wa_goto E d_X12_count_272 ?_
    refine wa_iadd E d_X12_count_276 ?_
    cases h
    exact wa_iret E d_X12_count_277
def f_X12_count_247 (v0 : Nat) (s0 : Int32) (σ : kf_St) : Option (Int32 × kf_St) :=
  if kf_ix 1 (kf_ln (kf_rf v0 64)) = true then
  if (σ.1 (kf_rf v0 64) (Int32.toNatClampNeg 1)) = 0 then
    f_X12_count_261 v0 s0 0 σ
  else
    f_X12_count_261 v0 s0 1 σ
  else none
set_option maxRecDepth 100000 in
set_option maxHeartbeats 4000000 in
theorem b_X12_count_247 {X : kf_X} {G : kf_G} {q : (Int32 × kf_St)} (E : kf_ok X G cX12_count RX12 4 (some .int) (4)) (hty : kf_wt G) (v0 : Nat) (s0 : Int32) (k_v0 : kf_kd G v0 = 13) (σ : kf_St) (h : f_X12_count_247 v0 s0 σ = some q) : kf_WA X G 4 (kf_Q X G (some (.int q.1)) q.2) 247 [(0, .ref (kf_ad G v0))] [.int s0] σ := by
  unfold f_X12_count_247 at h
  refine wa_aload_n 0 rfl E d_X12_count_247 ?_
  refine wa_getR fl_X12_146 k_v0 rfl E d_X12_count_248 ?_
  refine wa_iconst 1 ic_1 E d_X12_count_251 ?_
  obtain ⟨g_1, h⟩ := kf_gd h
  refine wa_zald (kf_wtf hty 64 52 k_v0 (by decide) rfl) g_1 E d_X12_count_252 ?_
  refine wa_if_eq E d_X12_count_253 (fun c_2 => ?_) (fun c_2 => ?_)
  · replace h := kf_ift c_2 h
    refine wa_iconst 0 ic_0 E d_X12_count_260 ?_
    exact b_X12_count_261 E hty v0 s0 0 k_v0 σ h
  · replace h := kf_iff c_2 h
    refine wa_iconst 1 ic_1 E d_X12_count_256 ?_
    refine wa_goto E d_X12_count_257 ?_
    exact b_X12_count_261 E hty v0 s0 1 k_v0 σ h
def f_X12_count_324 (rec293 : Nat → Int32 → Int32 → kf_St → Option (Int32 × kf_St)) (v0 : Nat) (v2 : Int32) (v3 : Int32) (σ : kf_St) : Option (Int32 × kf_St) :=
  kf_lt (v3 + 1) fun v3_1 =>
  rec293 v0 v2 v3_1 σ
set_option maxRecDepth 100000 in
set_option maxHeartbeats 4000000 in
theorem b_X12_count_324 {X : kf_X} {G : kf_G} {rec293 : Nat → Int32 → Int32 → kf_St → Option (Int32 × kf_St)} {q : (Int32 × kf_St)} (E : kf_ok X G cX12_count RX12 4 (some .int) (4)) (hty : kf_wt G) (hrec293 : ∀ (v0 : Nat) (v2 : Int32) (v3 : Int32) (k_v0 : kf_kd G v0 = 13) (σ : kf_St), rec293 v0 v2 v3 σ = some q → kf_WA X G 4 (kf_Q X G (some (.int q.1)) q.2) 293 [(0, .ref (kf_ad G v0)), (2, .int v2), (3, .int v3)] [] σ) (v0 : Nat) (v2 : Int32) (v3 : Int32) (k_v0 : kf_kd G v0 = 13) (σ : kf_St) (h : f_X12_count_324 rec293 v0 v2 v3 σ = some q) : kf_WA X G 4 (kf_Q X G (some (.int q.1)) q.2) 324 [(0, .ref (kf_ad G v0)), (2, .int v2), (3, .int v3)] [] σ := by
  unfold f_X12_count_324 at h
  obtain ⟨v3_1, ev3_1, h⟩ := kf_lte h
  refine wa_iinc (lv' := [(3, .int v3_1), (0, .ref (kf_ad G v0)), (2, .int v2)]) v3_1 2 rfl (kf_inc ic_1 ev3_1) (by decide) rfl E d_X12_count_324 ?_
  refine wa_goto E d_X12_count_327 ?_
  refine wa_sub [1, 2, 0] rfl ?_
  exact hrec293 v0 v2 v3_1 k_v0 σ h
def f_X12_count_293_s (rec293 : Nat → Int32 → Int32 → kf_St → Option (Int32 × kf_St)) (v0 : Nat) (v2 : Int32) (v3 : Int32) (σ : kf_St) : Option (Int32 × kf_St) :=
  if kf_ix (σ.1 v0 18) (kf_ln (kf_rf v0 23)) = true then
  if (σ.1 (kf_rf v0 23) (Int32.toNatClampNeg (σ.1 v0 18))) ≤ v3 then
    (f_X12_bits v2 σ).bind fun q_3 =>
    some (q_3.1, q_3.2)
  else
    (f_X12_knownBy v0 v3 σ).bind fun q_4 =>
    if q_4.1 < 0 then
      f_X12_count_324 rec293 v0 v2 v3 q_4.2
    else
      (f_X12_knownBy v0 v3 q_4.2).bind fun q_6 =>
      kf_lt ((v2 ||| ((1 : Int32) <<< (q_6.1 &&& 31)))) fun v2_7 =>
      f_X12_count_324 rec293 v0 v2_7 v3 q_6.2
  else none
def f_X12_count_293 : Nat → Nat → Int32 → Int32 → kf_St → Option (Int32 × kf_St)
  | 0, _, _, _, _ => none
  | n + 1, v0, v2, v3, σ => f_X12_count_293_s (f_X12_count_293 n) v0 v2 v3 σ
set_option maxRecDepth 100000 in
set_option maxHeartbeats 4000000 in
theorem b_X12_count_293_s {X : kf_X} {G : kf_G} (rec293 : Nat → Int32 → Int32 → kf_St → Option (Int32 × kf_St)) {q : (Int32 × kf_St)} (E : kf_ok X G cX12_count RX12 4 (some .int) (4)) (hty : kf_wt G) (hrec293 : ∀ (v0 : Nat) (v2 : Int32) (v3 : Int32) (k_v0 : kf_kd G v0 = 13) (σ : kf_St), rec293 v0 v2 v3 σ = some q → kf_WA X G 4 (kf_Q X G (some (.int q.1)) q.2) 293 [(0, .ref (kf_ad G v0)), (2, .int v2), (3, .int v3)] [] σ) (v0 : Nat) (v2 : Int32) (v3 : Int32) (k_v0 : kf_kd G v0 = 13) (σ : kf_St) (h : f_X12_count_293_s rec293 v0 v2 v3 σ = some q) : kf_WA X G 4 (kf_Q X G (some (.int q.1)) q.2) 293 [(0, .ref (kf_ad G v0)), (2, .int v2), (3, .int v3)] [] σ := by
  unfold f_X12_count_293_s at h
  refine wa_iload_n 2 rfl E d_X12_count_293 ?_
  refine wa_aload_n 0 rfl E d_X12_count_294 ?_
  refine wa_getR fl_X12_46 k_v0 rfl E d_X12_count_295 ?_
  refine wa_aload_n 0 rfl E d_X12_count_298 ?_
  refine wa_getI fl_X12_233 k_v0 rfl E d_X12_count_299 ?_
  obtain ⟨g_1, h⟩ := kf_gd h
  refine wa_iald (kf_wtf hty 23 49 k_v0 (by decide) rfl) g_1 E d_X12_count_302 ?_
  refine wa_icmp_ge E d_X12_count_303 (fun c_2 => ?_) (fun c_2 => ?_)
  · replace h := kf_ift c_2 h
    refine wa_iload_n 1 rfl E d_X12_count_330 ?_
    obtain ⟨q_3, hq_3, h⟩ := kf_bd h
    refine wa_callS (st2 := [.int q_3.1]) (c_X12_bits hty v2 σ hq_3) mt_X12_bits ml_X12_457 rfl (Nat.le_of_ble_eq_true rfl) rfl (Nat.le_of_ble_eq_true rfl) E d_X12_count_331 rfl ?_
    cases h
    exact wa_iret E d_X12_count_334
  · replace h := kf_iff c_2 h
    refine wa_aload_n 0 rfl E d_X12_count_306 ?_
    refine wa_iload_n 2 rfl E d_X12_count_307 ?_
    obtain ⟨q_4, hq_4, h⟩ := kf_bd h
    refine wa_callV (st2 := [.int q_4.1]) (c_X12_knownBy hty v0 v3 k_v0 σ hq_4) mv_X12_knownBy ml_X12_390 k_v0 rfl (Nat.le_of_ble_eq_true rfl) rfl (Nat.le_of_ble_eq_true rfl) E d_X12_count_308 rfl ?_
    refine wa_if_lt E d_X12_count_311 (fun c_5 => ?_) (fun c_5 => ?_)
    · replace h := kf_ift c_5 h
      exact b_X12_count_324 E hty hrec293 v0 v2 v3 k_v0 q_4.2 h
    · replace h := kf_iff c_5 h
      refine wa_iload_n 1 rfl E d_X12_count_314 ?_
      refine wa_iconst 1 ic_1 E d_X12_count_315 ?_
      refine wa_aload_n 0 rfl E d_X12_count_316 ?_
      refine wa_iload_n 2 rfl E d_X12_count_317 ?_
      obtain ⟨q_6, hq_6, h⟩ := kf_bd h
      refine wa_callV (st2 := [.int q_6.1, .int 1, .int v2]) (c_X12_knownBy hty v0 v3 k_v0 q_4.2 hq_6) mv_X12_knownBy ml_X12_390 k_v0 rfl (Nat.le_of_ble_eq_true rfl) rfl (Nat.le_of_ble_eq_true rfl) E d_X12_count_318 rfl ?_
      refine wa_ishl E d_X12_count_321 ?_
      refine wa_ior E d_X12_count_322 ?_
      obtain ⟨v2_7, ev2_7, h⟩ := kf_lte h
      refine wa_topi ev2_7 ?_
      refine wa_istore_n (lv' := [(2, .int v2_7), (0, .ref (kf_ad G v0)), (3, .int v3)]) rfl (by decide) rfl E d_X12_count_323 ?_
      refine wa_sub [1, 0, 2] rfl ?_
      exact b_X12_count_324 E hty hrec293 v0 v2_7 v3 k_v0 q_6.2 h
theorem b_X12_count_293 {X : kf_X} {G : kf_G} {q : (Int32 × kf_St)} (E : kf_ok X G cX12_count RX12 4 (some .int) (4)) (hty : kf_wt G) : ∀ (N : Nat) (v0 : Nat) (v2 : Int32) (v3 : Int32) (k_v0 : kf_kd G v0 = 13) (σ : kf_St) (_ : f_X12_count_293 N v0 v2 v3 σ = some q), kf_WA X G 4 (kf_Q X G (some (.int q.1)) q.2) 293 [(0, .ref (kf_ad G v0)), (2, .int v2), (3, .int v3)] [] σ
  | 0, _, _, _, _, _, h => by cases h
  | N + 1, v0, v2, v3, k_v0, σ, h => b_X12_count_293_s _ E hty (b_X12_count_293 E hty N) v0 v2 v3 k_v0 σ h
def f_X12_count_364 (rec337 : Nat → Int32 → Int32 → kf_St → Option (Int32 × kf_St)) (v0 : Nat) (v2 : Int32) (v3 : Int32) (σ : kf_St) : Option (Int32 × kf_St) :=
  kf_lt (v3 + 1) fun v3_1 =>
  rec337 v0 v2 v3_1 σ
set_option maxRecDepth 100000 in
set_option maxHeartbeats 4000000 in
theorem b_X12_count_364 {X : kf_X} {G : kf_G} {rec337 : Nat → Int32 → Int32 → kf_St → Option (Int32 × kf_St)} {q : (Int32 × kf_St)} (E : kf_ok X G cX12_count RX12 4 (some .int) (4)) (hty : kf_wt G) (hrec337 : ∀ (v0 : Nat) (v2 : Int32) (v3 : Int32) (k_v0 : kf_kd G v0 = 13) (σ : kf_St), rec337 v0 v2 v3 σ = some q → kf_WA X G 4 (kf_Q X G (some (.int q.1)) q.2) 337 [(0, .ref (kf_ad G v0)), (2, .int v2), (3, .int v3)] [] σ) (v0 : Nat) (v2 : Int32) (v3 : Int32) (k_v0 : kf_kd G v0 = 13) (σ : kf_St) (h : f_X12_count_364 rec337 v0 v2 v3 σ = some q) : kf_WA X G 4 (kf_Q X G (some (.int q.1)) q.2) 364 [(0, .ref (kf_ad G v0)), (2, .int v2), (3, .int v3)] [] σ := by
  unfold f_X12_count_364 at h
  obtain ⟨v3_1, ev3_1, h⟩ := kf_lte h
  refine wa_iinc (lv' := [(3, .int v3_1), (0, .ref (kf_ad G v0)), (2, .int v2)]) v3_1 2 rfl (kf_inc ic_1 ev3_1) (by decide) rfl E d_X12_count_364 ?_
  refine wa_goto E d_X12_count_367 ?_
  refine wa_sub [1, 2, 0] rfl ?_
  exact hrec337 v0 v2 v3_1 k_v0 σ h
def f_X12_count_337_s (rec337 : Nat → Int32 → Int32 → kf_St → Option (Int32 × kf_St)) (v0 : Nat) (v2 : Int32) (v3 : Int32) (σ : kf_St) : Option (Int32 × kf_St) :=
  if kf_ix (σ.1 v0 18) (kf_ln (kf_rf v0 23)) = true then
  if (σ.1 (kf_rf v0 23) (Int32.toNatClampNeg (σ.1 v0 18))) ≤ v3 then
    some (v2, σ)
  else
    (f_X12_unlikeFirst v0 v3 σ).bind fun q_3 =>
    if q_3.1 = 0 then
      kf_lt ((v2 ||| ((1 : Int32) <<< (v3 &&& 31)))) fun v2_5 =>
      f_X12_count_364 rec337 v0 v2_5 v3 q_3.2
    else
      f_X12_count_364 rec337 v0 v2 v3 q_3.2
  else none
def f_X12_count_337 : Nat → Nat → Int32 → Int32 → kf_St → Option (Int32 × kf_St)
  | 0, _, _, _, _ => none
  | n + 1, v0, v2, v3, σ => f_X12_count_337_s (f_X12_count_337 n) v0 v2 v3 σ
set_option maxRecDepth 100000 in
set_option maxHeartbeats 4000000 in
theorem b_X12_count_337_s {X : kf_X} {G : kf_G} (rec337 : Nat → Int32 → Int32 → kf_St → Option (Int32 × kf_St)) {q : (Int32 × kf_St)} (E : kf_ok X G cX12_count RX12 4 (some .int) (4)) (hty : kf_wt G) (hrec337 : ∀ (v0 : Nat) (v2 : Int32) (v3 : Int32) (k_v0 : kf_kd G v0 = 13) (σ : kf_St), rec337 v0 v2 v3 σ = some q → kf_WA X G 4 (kf_Q X G (some (.int q.1)) q.2) 337 [(0, .ref (kf_ad G v0)), (2, .int v2), (3, .int v3)] [] σ) (v0 : Nat) (v2 : Int32) (v3 : Int32) (k_v0 : kf_kd G v0 = 13) (σ : kf_St) (h : f_X12_count_337_s rec337 v0 v2 v3 σ = some q) : kf_WA X G 4 (kf_Q X G (some (.int q.1)) q.2) 337 [(0, .ref (kf_ad G v0)), (2, .int v2), (3, .int v3)] [] σ := by
  unfold f_X12_count_337_s at h
  refine wa_iload_n 2 rfl E d_X12_count_337 ?_
  refine wa_aload_n 0 rfl E d_X12_count_338 ?_
  refine wa_getR fl_X12_46 k_v0 rfl E d_X12_count_339 ?_
  refine wa_aload_n 0 rfl E d_X12_count_342 ?_
  refine wa_getI fl_X12_233 k_v0 rfl E d_X12_count_343 ?_
  obtain ⟨g_1, h⟩ := kf_gd h
  refine wa_iald (kf_wtf hty 23 49 k_v0 (by decide) rfl) g_1 E d_X12_count_346 ?_
  refine wa_icmp_ge E d_X12_count_347 (fun c_2 => ?_) (fun c_2 => ?_)
  · replace h := kf_ift c_2 h
    refine wa_iload_n 1 rfl E d_X12_count_370 ?_
    cases h
    exact wa_iret E d_X12_count_371
  · replace h := kf_iff c_2 h
    refine wa_aload_n 0 rfl E d_X12_count_350 ?_
    refine wa_iload_n 2 rfl E d_X12_count_351 ?_
    obtain ⟨q_3, hq_3, h⟩ := kf_bd h
    refine wa_callV (st2 := [.int q_3.1]) (c_X12_unlikeFirst hty v0 v3 k_v0 σ hq_3) mv_X12_unlikeFirst ml_X12_357 k_v0 rfl (Nat.le_of_ble_eq_true rfl) rfl (Nat.le_of_ble_eq_true rfl) E d_X12_count_352 rfl ?_
    refine wa_if_ne E d_X12_count_355 (fun c_4 => ?_) (fun c_4 => ?_)
    · replace h := kf_iff c_4 h
      exact b_X12_count_364 E hty hrec337 v0 v2 v3 k_v0 q_3.2 h
    · replace h := kf_ift c_4 h
      refine wa_iload_n 1 rfl E d_X12_count_358 ?_
      refine wa_iconst 1 ic_1 E d_X12_count_359 ?_
      refine wa_iload_n 2 rfl E d_X12_count_360 ?_
      refine wa_ishl E d_X12_count_361 ?_
      refine wa_ior E d_X12_count_362 ?_
      obtain ⟨v2_5, ev2_5, h⟩ := kf_lte h
      refine wa_topi ev2_5 ?_
      refine wa_istore_n (lv' := [(2, .int v2_5), (0, .ref (kf_ad G v0)), (3, .int v3)]) rfl (by decide) rfl E d_X12_count_363 ?_
      refine wa_sub [1, 0, 2] rfl ?_
      exact b_X12_count_364 E hty hrec337 v0 v2_5 v3 k_v0 q_3.2 h
theorem b_X12_count_337 {X : kf_X} {G : kf_G} {q : (Int32 × kf_St)} (E : kf_ok X G cX12_count RX12 4 (some .int) (4)) (hty : kf_wt G) : ∀ (N : Nat) (v0 : Nat) (v2 : Int32) (v3 : Int32) (k_v0 : kf_kd G v0 = 13) (σ : kf_St) (_ : f_X12_count_337 N v0 v2 v3 σ = some q), kf_WA X G 4 (kf_Q X G (some (.int q.1)) q.2) 337 [(0, .ref (kf_ad G v0)), (2, .int v2), (3, .int v3)] [] σ
  | 0, _, _, _, _, _, h => by cases h
  | N + 1, v0, v2, v3, k_v0, σ, h => b_X12_count_337_s _ E hty (b_X12_count_337 E hty N) v0 v2 v3 k_v0 σ h
def f_X12_count_405 (rec374 : Nat → Int32 → Int32 → kf_St → Option (Int32 × kf_St)) (v0 : Nat) (v2 : Int32) (v3 : Int32) (σ : kf_St) : Option (Int32 × kf_St) :=
  kf_lt (v3 + 1) fun v3_1 =>
  rec374 v0 v2 v3_1 σ
set_option maxRecDepth 100000 in
set_option maxHeartbeats 4000000 in
theorem b_X12_count_405 {X : kf_X} {G : kf_G} {rec374 : Nat → Int32 → Int32 → kf_St → Option (Int32 × kf_St)} {q : (Int32 × kf_St)} (E : kf_ok X G cX12_count RX12 4 (some .int) (4)) (hty : kf_wt G) (hrec374 : ∀ (v0 : Nat) (v2 : Int32) (v3 : Int32) (k_v0 : kf_kd G v0 = 13) (σ : kf_St), rec374 v0 v2 v3 σ = some q → kf_WA X G 4 (kf_Q X G (some (.int q.1)) q.2) 374 [(0, .ref (kf_ad G v0)), (2, .int v2), (3, .int v3)] [] σ) (v0 : Nat) (v2 : Int32) (v3 : Int32) (k_v0 : kf_kd G v0 = 13) (σ : kf_St) (h : f_X12_count_405 rec374 v0 v2 v3 σ = some q) : kf_WA X G 4 (kf_Q X G (some (.int q.1)) q.2) 405 [(0, .ref (kf_ad G v0)), (2, .int v2), (3, .int v3)] [] σ := by
  unfold f_X12_count_405 at h
  obtain ⟨v3_1, ev3_1, h⟩ := kf_lte h
  refine wa_iinc (lv' := [(3, .int v3_1), (0, .ref (kf_ad G v0)), (2, .int v2)]) v3_1 2 rfl (kf_inc ic_1 ev3_1) (by decide) rfl E d_X12_count_405 ?_
  refine wa_goto E d_X12_count_408 ?_
  refine wa_sub [1, 2, 0] rfl ?_
  exact hrec374 v0 v2 v3_1 k_v0 σ h
def f_X12_count_374_s (rec374 : Nat → Int32 → Int32 → kf_St → Option (Int32 × kf_St)) (v0 : Nat) (v2 : Int32) (v3 : Int32) (σ : kf_St) : Option (Int32 × kf_St) :=
  if kf_ix (σ.1 v0 18) (kf_ln (kf_rf v0 23)) = true then
  if (σ.1 (kf_rf v0 23) (Int32.toNatClampNeg (σ.1 v0 18))) ≤ v3 then
    some (v2, σ)
  else
    if kf_ix (30 + v3) (kf_ln (kf_rf v0 52)) = true then
    if (σ.1 (kf_rf v0 52) (Int32.toNatClampNeg (30 + v3))) ≤ 0 then
      f_X12_count_405 rec374 v0 v2 v3 σ
    else
      kf_lt ((v2 ||| ((1 : Int32) <<< (v3 &&& 31)))) fun v2_5 =>
      f_X12_count_405 rec374 v0 v2_5 v3 σ
    else none
  else none
def f_X12_count_374 : Nat → Nat → Int32 → Int32 → kf_St → Option (Int32 × kf_St)
  | 0, _, _, _, _ => none
  | n + 1, v0, v2, v3, σ => f_X12_count_374_s (f_X12_count_374 n) v0 v2 v3 σ
set_option maxRecDepth 100000 in
set_option maxHeartbeats 4000000 in
theorem b_X12_count_374_s {X : kf_X} {G : kf_G} (rec374 : Nat → Int32 → Int32 → kf_St → Option (Int32 × kf_St)) {q : (Int32 × kf_St)} (E : kf_ok X G cX12_count RX12 4 (some .int) (4)) (hty : kf_wt G) (hrec374 : ∀ (v0 : Nat) (v2 : Int32) (v3 : Int32) (k_v0 : kf_kd G v0 = 13) (σ : kf_St), rec374 v0 v2 v3 σ = some q → kf_WA X G 4 (kf_Q X G (some (.int q.1)) q.2) 374 [(0, .ref (kf_ad G v0)), (2, .int v2), (3, .int v3)] [] σ) (v0 : Nat) (v2 : Int32) (v3 : Int32) (k_v0 : kf_kd G v0 = 13) (σ : kf_St) (h : f_X12_count_374_s rec374 v0 v2 v3 σ = some q) : kf_WA X G 4 (kf_Q X G (some (.int q.1)) q.2) 374 [(0, .ref (kf_ad G v0)), (2, .int v2), (3, .int v3)] [] σ := by
  unfold f_X12_count_374_s at h
  refine wa_iload_n 2 rfl E d_X12_count_374 ?_
  refine wa_aload_n 0 rfl E d_X12_count_375 ?_
  refine wa_getR fl_X12_46 k_v0 rfl E d_X12_count_376 ?_
  refine wa_aload_n 0 rfl E d_X12_count_379 ?_
  refine wa_getI fl_X12_233 k_v0 rfl E d_X12_count_380 ?_
  obtain ⟨g_1, h⟩ := kf_gd h
  refine wa_iald (kf_wtf hty 23 49 k_v0 (by decide) rfl) g_1 E d_X12_count_383 ?_
  refine wa_icmp_ge E d_X12_count_384 (fun c_2 => ?_) (fun c_2 => ?_)
  · replace h := kf_ift c_2 h
    refine wa_iload_n 1 rfl E d_X12_count_411 ?_
    cases h
    exact wa_iret E d_X12_count_412
  · replace h := kf_iff c_2 h
    refine wa_aload_n 0 rfl E d_X12_count_387 ?_
    refine wa_getR fl_X12_122 k_v0 rfl E d_X12_count_388 ?_
    refine wa_bipush 30 bp_30 E d_X12_count_391 ?_
    refine wa_iload_n 2 rfl E d_X12_count_393 ?_
    refine wa_iadd E d_X12_count_394 ?_
    obtain ⟨g_3, h⟩ := kf_gd h
    refine wa_iald (kf_wtf hty 52 49 k_v0 (by decide) rfl) g_3 E d_X12_count_395 ?_
    refine wa_if_le E d_X12_count_396 (fun c_4 => ?_) (fun c_4 => ?_)
    · replace h := kf_ift c_4 h
      exact b_X12_count_405 E hty hrec374 v0 v2 v3 k_v0 σ h
    · replace h := kf_iff c_4 h
      refine wa_iload_n 1 rfl E d_X12_count_399 ?_
      refine wa_iconst 1 ic_1 E d_X12_count_400 ?_
      refine wa_iload_n 2 rfl E d_X12_count_401 ?_
      refine wa_ishl E d_X12_count_402 ?_
      refine wa_ior E d_X12_count_403 ?_
      obtain ⟨v2_5, ev2_5, h⟩ := kf_lte h
      refine wa_topi ev2_5 ?_
      refine wa_istore_n (lv' := [(2, .int v2_5), (0, .ref (kf_ad G v0)), (3, .int v3)]) rfl (by decide) rfl E d_X12_count_404 ?_
      refine wa_sub [1, 0, 2] rfl ?_
      exact b_X12_count_405 E hty hrec374 v0 v2_5 v3 k_v0 σ h
theorem b_X12_count_374 {X : kf_X} {G : kf_G} {q : (Int32 × kf_St)} (E : kf_ok X G cX12_count RX12 4 (some .int) (4)) (hty : kf_wt G) : ∀ (N : Nat) (v0 : Nat) (v2 : Int32) (v3 : Int32) (k_v0 : kf_kd G v0 = 13) (σ : kf_St) (_ : f_X12_count_374 N v0 v2 v3 σ = some q), kf_WA X G 4 (kf_Q X G (some (.int q.1)) q.2) 374 [(0, .ref (kf_ad G v0)), (2, .int v2), (3, .int v3)] [] σ
  | 0, _, _, _, _, _, h => by cases h
  | N + 1, v0, v2, v3, k_v0, σ, h => b_X12_count_374_s _ E hty (b_X12_count_374 E hty N) v0 v2 v3 k_v0 σ h
def f_X12_count (v0 : Nat) (v1 : Int32) (σ : kf_St) : Option (Int32 × kf_St) :=
  (f_X12_copies v0 σ).bind fun q_1 =>
  if v1 = 0 then
    if kf_ix (q_1.1 v0 18) (kf_ln (kf_rf v0 23)) = true then
    some ((q_1.1 (kf_rf v0 23) (Int32.toNatClampNeg (q_1.1 v0 18))), q_1)
    else none
  else
    if v1 = 1 then
      if kf_ix (q_1.1 v0 18) (kf_ln (kf_rf v0 25)) = true then
      some ((q_1.1 (kf_rf v0 25) (Int32.toNatClampNeg (q_1.1 v0 18))), q_1)
      else none
    else
      if v1 = 2 then
        if kf_ix (q_1.1 v0 18) (kf_ln (kf_rf v0 27)) = true then
        some ((q_1.1 (kf_rf v0 27) (Int32.toNatClampNeg (q_1.1 v0 18))), q_1)
        else none
      else
        if v1 = 3 then
          if kf_ix 69 (kf_ln (kf_rf v0 52)) = true then
          some ((q_1.1 (kf_rf v0 52) (Int32.toNatClampNeg 69)), q_1)
          else none
        else
          if v1 = 4 then
            f_X12_count_128 kf_F v0 0 0 q_1
          else
            if v1 = 5 then
              (f_X12_sumNow v0 24 6 q_1).bind fun q_12 =>
              some (q_12.1, q_12.2)
            else
              if v1 = 6 then
                (f_X12_sumNow v0 42 6 q_1).bind fun q_14 =>
                some (q_14.1, q_14.2)
              else
                if v1 = 7 then
                  f_X12_count_183 kf_F v0 0 0 q_1
                else
                  if v1 = 8 then
                    some ((q_1.1 v0 2), q_1)
                  else
                    if v1 = 9 then
                      some ((q_1.1 v0 56), q_1)
                    else
                      if v1 = 10 then
                        some ((q_1.1 v0 60), q_1)
                      else
                        if v1 = 11 then
                          if kf_ix 0 (kf_ln (kf_rf v0 64)) = true then
                          if (q_1.1 (kf_rf v0 64) (Int32.toNatClampNeg 0)) = 0 then
                            f_X12_count_247 v0 0 q_1
                          else
                            f_X12_count_247 v0 1 q_1
                          else none
                        else
                          if v1 = 12 then
                            (f_X12_isWind v0 q_1).bind fun q_23 =>
                            if q_23.1 = 0 then
                              some (0, q_23.2)
                            else
                              some (1, q_23.2)
                          else
                            if v1 = 13 then
                              f_X12_count_293 kf_F v0 0 0 q_1
                            else
                              if v1 = 14 then
                                f_X12_count_337 kf_F v0 0 0 q_1
                              else
                                if v1 = 15 then
                                  f_X12_count_374 kf_F v0 0 0 q_1
                                else
                                  if v1 = 16 then
                                    (f_X12_sumNow v0 36 6 q_1).bind fun q_29 =>
                                    some (q_29.1, q_29.2)
                                  else
                                    some ((-1), q_1)
set_option maxRecDepth 100000 in
set_option maxHeartbeats 4000000 in
theorem c_X12_count {G : kf_G} (hty : kf_wt G) (v0 : Nat) (v1 : Int32) (k_v0 : kf_kd G v0 = 13) (σ : kf_St) {q : (Int32 × kf_St)} (h : f_X12_count v0 v1 σ = some q) : kf_Ct (4) yX12_count cX12_count 4 (some .int) G [.ref (kf_ad G v0), .int v1] σ (some (.int q.1)) q.2 := by
  refine kf_Ct.of hty.1 (lv := [(0, .ref (kf_ad G v0)), (1, .int v1)]) (by decide +kernel) rfl (Nat.le_of_ble_eq_true rfl) (fun X E => ?_)
  unfold f_X12_count at h
  refine wa_aload_n 0 rfl E d_X12_count_0 ?_
  obtain ⟨q_1, hq_1, h⟩ := kf_bd h
  refine wa_callV (st2 := []) (c_X12_copies hty v0 k_v0 σ hq_1) mv_X12_copies ml_X12_323 k_v0 rfl (Nat.le_of_ble_eq_true rfl) rfl (Nat.le_of_ble_eq_true rfl) E d_X12_count_1 rfl ?_
  refine wa_iconst 0 ic_0 E d_X12_count_4 ?_
  refine wa_istore_n (lv' := [(2, .int 0), (0, .ref (kf_ad G v0)), (1, .int v1)]) rfl (by decide) rfl E d_X12_count_5 ?_
  refine wa_iload_n 2 rfl E d_X12_count_6 ?_
  by_cases c_2 : v1 = 0
  · replace h := kf_ift c_2 h
    refine wa_tabIn (off := 81) (tgt := 88) (by rw [c_2]; decide) (by rw [c_2]; decide) (by rw [c_2]; rfl) (by decide) E d_X12_count_7 ?_
    refine wa_aload_n 1 rfl E d_X12_count_88 ?_
    refine wa_getR fl_X12_46 k_v0 rfl E d_X12_count_89 ?_
    refine wa_aload_n 1 rfl E d_X12_count_92 ?_
    refine wa_getI fl_X12_233 k_v0 rfl E d_X12_count_93 ?_
    obtain ⟨g_3, h⟩ := kf_gd h
    refine wa_iald (kf_wtf hty 23 49 k_v0 (by decide) rfl) g_3 E d_X12_count_96 ?_
    cases h
    exact wa_iret E d_X12_count_97
  · replace h := kf_iff c_2 h
    by_cases c_4 : v1 = 1
    · replace h := kf_ift c_4 h
      refine wa_tabIn (off := 91) (tgt := 98) (by rw [c_4]; decide) (by rw [c_4]; decide) (by rw [c_4]; rfl) (by decide) E d_X12_count_7 ?_
      refine wa_aload_n 1 rfl E d_X12_count_98 ?_
      refine wa_getR fl_X12_52 k_v0 rfl E d_X12_count_99 ?_
      refine wa_aload_n 1 rfl E d_X12_count_102 ?_
      refine wa_getI fl_X12_233 k_v0 rfl E d_X12_count_103 ?_
      obtain ⟨g_5, h⟩ := kf_gd h
      refine wa_iald (kf_wtf hty 25 49 k_v0 (by decide) rfl) g_5 E d_X12_count_106 ?_
      cases h
      exact wa_iret E d_X12_count_107
    · replace h := kf_iff c_4 h
      by_cases c_6 : v1 = 2
      · replace h := kf_ift c_6 h
        refine wa_tabIn (off := 101) (tgt := 108) (by rw [c_6]; decide) (by rw [c_6]; decide) (by rw [c_6]; rfl) (by decide) E d_X12_count_7 ?_
        refine wa_aload_n 1 rfl E d_X12_count_108 ?_
        refine wa_getR fl_X12_58 k_v0 rfl E d_X12_count_109 ?_
        refine wa_aload_n 1 rfl E d_X12_count_112 ?_
        refine wa_getI fl_X12_233 k_v0 rfl E d_X12_count_113 ?_
        obtain ⟨g_7, h⟩ := kf_gd h
        refine wa_iald (kf_wtf hty 27 49 k_v0 (by decide) rfl) g_7 E d_X12_count_116 ?_
        cases h
        exact wa_iret E d_X12_count_117
      · replace h := kf_iff c_6 h
        by_cases c_8 : v1 = 3
        · replace h := kf_ift c_8 h
          refine wa_tabIn (off := 111) (tgt := 118) (by rw [c_8]; decide) (by rw [c_8]; decide) (by rw [c_8]; rfl) (by decide) E d_X12_count_7 ?_
          refine wa_aload_n 1 rfl E d_X12_count_118 ?_
          refine wa_getR fl_X12_122 k_v0 rfl E d_X12_count_119 ?_
          refine wa_bipush 69 bp_69 E d_X12_count_122 ?_
          obtain ⟨g_9, h⟩ := kf_gd h
          refine wa_iald (kf_wtf hty 52 49 k_v0 (by decide) rfl) g_9 E d_X12_count_124 ?_
          cases h
          exact wa_iret E d_X12_count_125
        · replace h := kf_iff c_8 h
          by_cases c_10 : v1 = 4
          · replace h := kf_ift c_10 h
            refine wa_tabIn (off := 119) (tgt := 126) (by rw [c_10]; decide) (by rw [c_10]; decide) (by rw [c_10]; rfl) (by decide) E d_X12_count_7 ?_
            refine wa_iconst 0 ic_0 E d_X12_count_126 ?_
            refine wa_istore_n (lv' := [(3, .int 0), (2, .int 0), (0, .ref (kf_ad G v0)), (1, .int v1)]) rfl (by decide) rfl E d_X12_count_127 ?_
            refine wa_sub [2, 1, 0] rfl ?_
            exact b_X12_count_128 E hty kf_F v0 0 0 k_v0 q_1 h
          · replace h := kf_iff c_10 h
            by_cases c_11 : v1 = 5
            · replace h := kf_ift c_11 h
              refine wa_tabIn (off := 156) (tgt := 163) (by rw [c_11]; decide) (by rw [c_11]; decide) (by rw [c_11]; rfl) (by decide) E d_X12_count_7 ?_
              refine wa_aload_n 1 rfl E d_X12_count_163 ?_
              refine wa_bipush 24 bp_24 E d_X12_count_164 ?_
              refine wa_bipush 6 bp_6 E d_X12_count_166 ?_
              obtain ⟨q_12, hq_12, h⟩ := kf_bd h
              refine wa_callV (st2 := [.int q_12.1]) (c_X12_sumNow hty v0 24 6 k_v0 q_1 hq_12) mv_X12_sumNow ml_X12_463 k_v0 rfl (Nat.le_of_ble_eq_true rfl) rfl (Nat.le_of_ble_eq_true rfl) E d_X12_count_168 rfl ?_
              cases h
              exact wa_iret E d_X12_count_171
            · replace h := kf_iff c_11 h
              by_cases c_13 : v1 = 6
              · replace h := kf_ift c_13 h
                refine wa_tabIn (off := 165) (tgt := 172) (by rw [c_13]; decide) (by rw [c_13]; decide) (by rw [c_13]; rfl) (by decide) E d_X12_count_7 ?_
                refine wa_aload_n 1 rfl E d_X12_count_172 ?_
                refine wa_bipush 42 bp_42 E d_X12_count_173 ?_
                refine wa_bipush 6 bp_6 E d_X12_count_175 ?_
                obtain ⟨q_14, hq_14, h⟩ := kf_bd h
                refine wa_callV (st2 := [.int q_14.1]) (c_X12_sumNow hty v0 42 6 k_v0 q_1 hq_14) mv_X12_sumNow ml_X12_463 k_v0 rfl (Nat.le_of_ble_eq_true rfl) rfl (Nat.le_of_ble_eq_true rfl) E d_X12_count_177 rfl ?_
                cases h
                exact wa_iret E d_X12_count_180
              · replace h := kf_iff c_13 h
                by_cases c_15 : v1 = 7
                · replace h := kf_ift c_15 h
                  refine wa_tabIn (off := 174) (tgt := 181) (by rw [c_15]; decide) (by rw [c_15]; decide) (by rw [c_15]; rfl) (by decide) E d_X12_count_7 ?_
                  refine wa_iconst 0 ic_0 E d_X12_count_181 ?_
                  refine wa_istore_n (lv' := [(3, .int 0), (2, .int 0), (0, .ref (kf_ad G v0)), (1, .int v1)]) rfl (by decide) rfl E d_X12_count_182 ?_
                  refine wa_sub [2, 1, 0] rfl ?_
                  exact b_X12_count_183 E hty kf_F v0 0 0 k_v0 q_1 h
                · replace h := kf_iff c_15 h
                  by_cases c_16 : v1 = 8
                  · replace h := kf_ift c_16 h
                    refine wa_tabIn (off := 211) (tgt := 218) (by rw [c_16]; decide) (by rw [c_16]; decide) (by rw [c_16]; rfl) (by decide) E d_X12_count_7 ?_
                    refine wa_aload_n 1 rfl E d_X12_count_218 ?_
                    refine wa_getI fl_X12_166 k_v0 rfl E d_X12_count_219 ?_
                    cases h
                    exact wa_iret E d_X12_count_222
                  · replace h := kf_iff c_16 h
                    by_cases c_17 : v1 = 9
                    · replace h := kf_ift c_17 h
                      refine wa_tabIn (off := 216) (tgt := 223) (by rw [c_17]; decide) (by rw [c_17]; decide) (by rw [c_17]; rfl) (by decide) E d_X12_count_7 ?_
                      refine wa_aload_n 1 rfl E d_X12_count_223 ?_
                      refine wa_getI fl_X12_251 k_v0 rfl E d_X12_count_224 ?_
                      cases h
                      exact wa_iret E d_X12_count_227
                    · replace h := kf_iff c_17 h
                      by_cases c_18 : v1 = 10
                      · replace h := kf_ift c_18 h
                        refine wa_tabIn (off := 221) (tgt := 228) (by rw [c_18]; decide) (by rw [c_18]; decide) (by rw [c_18]; rfl) (by decide) E d_X12_count_7 ?_
                        refine wa_aload_n 1 rfl E d_X12_count_228 ?_
                        refine wa_getI fl_X12_254 k_v0 rfl E d_X12_count_229 ?_
                        cases h
                        exact wa_iret E d_X12_count_232
                      · replace h := kf_iff c_18 h
                        by_cases c_19 : v1 = 11
                        · replace h := kf_ift c_19 h
                          refine wa_tabIn (off := 226) (tgt := 233) (by rw [c_19]; decide) (by rw [c_19]; decide) (by rw [c_19]; rfl) (by decide) E d_X12_count_7 ?_
                          refine wa_aload_n 1 rfl E d_X12_count_233 ?_
                          refine wa_getR fl_X12_146 k_v0 rfl E d_X12_count_234 ?_
                          refine wa_iconst 0 ic_0 E d_X12_count_237 ?_
                          obtain ⟨g_20, h⟩ := kf_gd h
                          refine wa_zald (kf_wtf hty 64 52 k_v0 (by decide) rfl) g_20 E d_X12_count_238 ?_
                          refine wa_if_eq E d_X12_count_239 (fun c_21 => ?_) (fun c_21 => ?_)
                          · replace h := kf_ift c_21 h
                            refine wa_iconst 0 ic_0 E d_X12_count_246 ?_
                            refine wa_sub [1] rfl ?_
                            exact b_X12_count_247 E hty v0 0 k_v0 q_1 h
                          · replace h := kf_iff c_21 h
                            refine wa_iconst 1 ic_1 E d_X12_count_242 ?_
                            refine wa_goto E d_X12_count_243 ?_
                            refine wa_sub [1] rfl ?_
                            exact b_X12_count_247 E hty v0 1 k_v0 q_1 h
                        · replace h := kf_iff c_19 h
                          by_cases c_22 : v1 = 12
                          · replace h := kf_ift c_22 h
                            refine wa_tabIn (off := 271) (tgt := 278) (by rw [c_22]; decide) (by rw [c_22]; decide) (by rw [c_22]; rfl) (by decide) E d_X12_count_7 ?_
                            refine wa_aload_n 1 rfl E d_X12_count_278 ?_
                            obtain ⟨q_23, hq_23, h⟩ := kf_bd h
                            refine wa_callV (st2 := [.int q_23.1]) (c_X12_isWind hty v0 k_v0 q_1 hq_23) mv_X12_isWind ml_X12_377 k_v0 rfl (Nat.le_of_ble_eq_true rfl) rfl (Nat.le_of_ble_eq_true rfl) E d_X12_count_279 rfl ?_
                            refine wa_if_eq E d_X12_count_282 (fun c_24 => ?_) (fun c_24 => ?_)
                            · replace h := kf_ift c_24 h
                              refine wa_iconst 0 ic_0 E d_X12_count_289 ?_
                              cases h
                              exact wa_iret E d_X12_count_290
                            · replace h := kf_iff c_24 h
                              refine wa_iconst 1 ic_1 E d_X12_count_285 ?_
                              refine wa_goto E d_X12_count_286 ?_
                              cases h
                              exact wa_iret E d_X12_count_290
                          · replace h := kf_iff c_22 h
                            by_cases c_25 : v1 = 13
                            · replace h := kf_ift c_25 h
                              refine wa_tabIn (off := 284) (tgt := 291) (by rw [c_25]; decide) (by rw [c_25]; decide) (by rw [c_25]; rfl) (by decide) E d_X12_count_7 ?_
                              refine wa_iconst 0 ic_0 E d_X12_count_291 ?_
                              refine wa_istore_n (lv' := [(3, .int 0), (2, .int 0), (0, .ref (kf_ad G v0)), (1, .int v1)]) rfl (by decide) rfl E d_X12_count_292 ?_
                              refine wa_sub [2, 1, 0] rfl ?_
                              exact b_X12_count_293 E hty kf_F v0 0 0 k_v0 q_1 h
                            · replace h := kf_iff c_25 h
                              by_cases c_26 : v1 = 14
                              · replace h := kf_ift c_26 h
                                refine wa_tabIn (off := 328) (tgt := 335) (by rw [c_26]; decide) (by rw [c_26]; decide) (by rw [c_26]; rfl) (by decide) E d_X12_count_7 ?_
                                refine wa_iconst 0 ic_0 E d_X12_count_335 ?_
                                refine wa_istore_n (lv' := [(3, .int 0), (2, .int 0), (0, .ref (kf_ad G v0)), (1, .int v1)]) rfl (by decide) rfl E d_X12_count_336 ?_
                                refine wa_sub [2, 1, 0] rfl ?_
                                exact b_X12_count_337 E hty kf_F v0 0 0 k_v0 q_1 h
                              · replace h := kf_iff c_26 h
                                by_cases c_27 : v1 = 15
                                · replace h := kf_ift c_27 h
                                  refine wa_tabIn (off := 365) (tgt := 372) (by rw [c_27]; decide) (by rw [c_27]; decide) (by rw [c_27]; rfl) (by decide) E d_X12_count_7 ?_
                                  refine wa_iconst 0 ic_0 E d_X12_count_372 ?_
                                  refine wa_istore_n (lv' := [(3, .int 0), (2, .int 0), (0, .ref (kf_ad G v0)), (1, .int v1)]) rfl (by decide) rfl E d_X12_count_373 ?_
                                  refine wa_sub [2, 1, 0] rfl ?_
                                  exact b_X12_count_374 E hty kf_F v0 0 0 k_v0 q_1 h
                                · replace h := kf_iff c_27 h
                                  by_cases c_28 : v1 = 16
                                  · replace h := kf_ift c_28 h
                                    refine wa_tabIn (off := 406) (tgt := 413) (by rw [c_28]; decide) (by rw [c_28]; decide) (by rw [c_28]; rfl) (by decide) E d_X12_count_7 ?_
                                    refine wa_aload_n 1 rfl E d_X12_count_413 ?_
                                    refine wa_bipush 36 bp_36 E d_X12_count_414 ?_
                                    refine wa_bipush 6 bp_6 E d_X12_count_416 ?_
                                    obtain ⟨q_29, hq_29, h⟩ := kf_bd h
                                    refine wa_callV (st2 := [.int q_29.1]) (c_X12_sumNow hty v0 36 6 k_v0 q_1 hq_29) mv_X12_sumNow ml_X12_463 k_v0 rfl (Nat.le_of_ble_eq_true rfl) rfl (Nat.le_of_ble_eq_true rfl) E d_X12_count_418 rfl ?_
                                    cases h
                                    exact wa_iret E d_X12_count_421
                                  · replace h := kf_iff c_28 h
                                    refine wa_tabOut (tgt := 422) (kf_out [0, 1, 2, 3, 4, 5, 6, 7, 8, 9, 10, 11, 12, 13, 14, 15, 16] (by decide +kernel) (List.forall_mem_cons.mpr ⟨c_2, List.forall_mem_cons.mpr ⟨c_4, List.forall_mem_cons.mpr ⟨c_6, List.forall_mem_cons.mpr ⟨c_8, List.forall_mem_cons.mpr ⟨c_10, List.forall_mem_cons.mpr ⟨c_11, List.forall_mem_cons.mpr ⟨c_13, List.forall_mem_cons.mpr ⟨c_15, List.forall_mem_cons.mpr ⟨c_16, List.forall_mem_cons.mpr ⟨c_17, List.forall_mem_cons.mpr ⟨c_18, List.forall_mem_cons.mpr ⟨c_19, List.forall_mem_cons.mpr ⟨c_22, List.forall_mem_cons.mpr ⟨c_25, List.forall_mem_cons.mpr ⟨c_26, List.forall_mem_cons.mpr ⟨c_27, List.forall_mem_cons.mpr ⟨c_28, fun _ h => absurd h List.not_mem_nil⟩⟩⟩⟩⟩⟩⟩⟩⟩⟩⟩⟩⟩⟩⟩⟩⟩)) (by decide) E d_X12_count_7 ?_
                                    refine wa_iconst (-1) ic_m1 E d_X12_count_422 ?_
                                    cases h
                                    exact wa_iret E d_X12_count_423
