/-! X8_isBlank -/
theorem d_X8_isBlank_0 : kf_dq cX8_isBlank 0 1 1 (.iload_n 0) := ⟨by decide +kernel, rfl⟩
theorem d_X8_isBlank_1 : kf_dq cX8_isBlank 1 3 2 (.bipush 9) := ⟨by decide +kernel, rfl⟩
theorem d_X8_isBlank_3 : kf_dj cX8_isBlank 3 6 24 (.if_icmp .eq) := ⟨21, by decide +kernel, rfl, by decide⟩
theorem d_X8_isBlank_6 : kf_dq cX8_isBlank 6 7 1 (.iload_n 0) := ⟨by decide +kernel, rfl⟩
theorem d_X8_isBlank_7 : kf_dq cX8_isBlank 7 9 2 (.bipush 10) := ⟨by decide +kernel, rfl⟩
theorem d_X8_isBlank_9 : kf_dj cX8_isBlank 9 12 24 (.if_icmp .eq) := ⟨15, by decide +kernel, rfl, by decide⟩
theorem d_X8_isBlank_12 : kf_dq cX8_isBlank 12 13 1 (.iload_n 0) := ⟨by decide +kernel, rfl⟩
theorem d_X8_isBlank_13 : kf_dq cX8_isBlank 13 15 2 (.bipush 13) := ⟨by decide +kernel, rfl⟩
theorem d_X8_isBlank_15 : kf_dj cX8_isBlank 15 18 24 (.if_icmp .eq) := ⟨9, by decide +kernel, rfl, by decide⟩
theorem d_X8_isBlank_18 : kf_dq cX8_isBlank 18 19 1 (.iload_n 0) := ⟨by decide +kernel, rfl⟩
theorem d_X8_isBlank_19 : kf_dq cX8_isBlank 19 21 2 (.bipush 32) := ⟨by decide +kernel, rfl⟩
theorem d_X8_isBlank_21 : kf_dj cX8_isBlank 21 24 28 (.if_icmp .ne) := ⟨7, by decide +kernel, rfl, by decide⟩
theorem d_X8_isBlank_24 : kf_dq cX8_isBlank 24 25 1 (.iconst 1) := ⟨by decide +kernel, rfl⟩
theorem d_X8_isBlank_25 : kf_dj cX8_isBlank 25 28 29 .goto := ⟨4, by decide +kernel, rfl, by decide⟩
theorem d_X8_isBlank_28 : kf_dq cX8_isBlank 28 29 1 (.iconst 0) := ⟨by decide +kernel, rfl⟩
theorem d_X8_isBlank_29 : kf_dq cX8_isBlank 29 30 1 (.ireturn) := ⟨by decide +kernel, rfl⟩
def f_X8_isBlank (v0 : Int32) (σ : kf_St) : Option (Int32 × kf_St) :=
  if v0 = 9 then
    some (1, σ)
  else
    if v0 = 10 then
      some (1, σ)
    else
      if v0 = 13 then
        some (1, σ)
      else
        if v0 = 32 then
          some (1, σ)
        else
          some (0, σ)
set_option maxRecDepth 100000 in
set_option maxHeartbeats 4000000 in
theorem c_X8_isBlank {G : kf_G} (hty : kf_wt G) (v0 : Int32) (σ : kf_St) {q : (Int32 × kf_St)} (h : f_X8_isBlank v0 σ = some q) : kf_Ct (1) yX8_isBlank cX8_isBlank 1 (some .boolean) G [.int v0] σ (some (.int q.1)) q.2 := by
  refine kf_Ct.of hty.1 (lv := [(0, .int v0)]) (by decide +kernel) rfl (Nat.le_of_ble_eq_true rfl) (fun X E => ?_)
  unfold f_X8_isBlank at h
  refine wa_iload_n 0 rfl E d_X8_isBlank_0 ?_
  refine wa_bipush 9 bp_9 E d_X8_isBlank_1 ?_
  refine wa_icmp_eq E d_X8_isBlank_3 (fun c_1 => ?_) (fun c_1 => ?_)
  · replace h := kf_ift c_1 h
    refine wa_iconst 1 ic_1 E d_X8_isBlank_24 ?_
    refine wa_goto E d_X8_isBlank_25 ?_
    cases h
    exact wa_zret kf_z1 E d_X8_isBlank_29
  · replace h := kf_iff c_1 h
    refine wa_iload_n 0 rfl E d_X8_isBlank_6 ?_
    refine wa_bipush 10 bp_10 E d_X8_isBlank_7 ?_
    refine wa_icmp_eq E d_X8_isBlank_9 (fun c_2 => ?_) (fun c_2 => ?_)
    · replace h := kf_ift c_2 h
      refine wa_iconst 1 ic_1 E d_X8_isBlank_24 ?_
      refine wa_goto E d_X8_isBlank_25 ?_
      cases h
      exact wa_zret kf_z1 E d_X8_isBlank_29
    · replace h := kf_iff c_2 h
      refine wa_iload_n 0 rfl E d_X8_isBlank_12 ?_
      refine wa_bipush 13 bp_13 E d_X8_isBlank_13 ?_
      refine wa_icmp_eq E d_X8_isBlank_15 (fun c_3 => ?_) (fun c_3 => ?_)
      · replace h := kf_ift c_3 h
        refine wa_iconst 1 ic_1 E d_X8_isBlank_24 ?_
        refine wa_goto E d_X8_isBlank_25 ?_
        cases h
        exact wa_zret kf_z1 E d_X8_isBlank_29
      · replace h := kf_iff c_3 h
        refine wa_iload_n 0 rfl E d_X8_isBlank_18 ?_
        refine wa_bipush 32 bp_32 E d_X8_isBlank_19 ?_
        refine wa_icmp_ne E d_X8_isBlank_21 (fun c_4 => ?_) (fun c_4 => ?_)
        · replace h := kf_iff c_4 h
          refine wa_iconst 0 ic_0 E d_X8_isBlank_28 ?_
          cases h
          exact wa_zret kf_z0 E d_X8_isBlank_29
        · replace h := kf_ift c_4 h
          refine wa_iconst 1 ic_1 E d_X8_isBlank_24 ?_
          refine wa_goto E d_X8_isBlank_25 ?_
          cases h
          exact wa_zret kf_z1 E d_X8_isBlank_29
/-! X8_skipBlanks -/
theorem d_X8_skipBlanks_0 : kf_dq cX8_skipBlanks 0 1 1 (.aload_n 0) := ⟨by decide +kernel, rfl⟩
theorem d_X8_skipBlanks_1 : kf_dq cX8_skipBlanks 1 4 3 (.getfield 54) := ⟨by decide +kernel, rfl⟩
theorem d_X8_skipBlanks_4 : kf_dq cX8_skipBlanks 4 5 1 (.aload_n 0) := ⟨by decide +kernel, rfl⟩
theorem d_X8_skipBlanks_5 : kf_dq cX8_skipBlanks 5 8 3 (.getfield 51) := ⟨by decide +kernel, rfl⟩
theorem d_X8_skipBlanks_8 : kf_dj cX8_skipBlanks 8 11 38 (.if_icmp .ge) := ⟨30, by decide +kernel, rfl, by decide⟩
theorem d_X8_skipBlanks_11 : kf_dq cX8_skipBlanks 11 12 1 (.aload_n 0) := ⟨by decide +kernel, rfl⟩
theorem d_X8_skipBlanks_12 : kf_dq cX8_skipBlanks 12 13 1 (.aload_n 0) := ⟨by decide +kernel, rfl⟩
theorem d_X8_skipBlanks_13 : kf_dq cX8_skipBlanks 13 16 3 (.getfield 54) := ⟨by decide +kernel, rfl⟩
theorem d_X8_skipBlanks_16 : kf_dq cX8_skipBlanks 16 19 3 (.invokevirtual 70) := ⟨by decide +kernel, rfl⟩
theorem d_X8_skipBlanks_19 : kf_dq cX8_skipBlanks 19 22 3 (.invokestatic 74) := ⟨by decide +kernel, rfl⟩
theorem d_X8_skipBlanks_22 : kf_dj cX8_skipBlanks 22 25 38 (.ifCond .eq) := ⟨16, by decide +kernel, rfl, by decide⟩
theorem d_X8_skipBlanks_25 : kf_dq cX8_skipBlanks 25 26 1 (.aload_n 0) := ⟨by decide +kernel, rfl⟩
theorem d_X8_skipBlanks_26 : kf_dq cX8_skipBlanks 26 27 1 (.dup) := ⟨by decide +kernel, rfl⟩
theorem d_X8_skipBlanks_27 : kf_dq cX8_skipBlanks 27 30 3 (.getfield 54) := ⟨by decide +kernel, rfl⟩
theorem d_X8_skipBlanks_30 : kf_dq cX8_skipBlanks 30 31 1 (.iconst 1) := ⟨by decide +kernel, rfl⟩
theorem d_X8_skipBlanks_31 : kf_dq cX8_skipBlanks 31 32 1 (.iadd) := ⟨by decide +kernel, rfl⟩
theorem d_X8_skipBlanks_32 : kf_dq cX8_skipBlanks 32 35 3 (.putfield 54) := ⟨by decide +kernel, rfl⟩
theorem d_X8_skipBlanks_35 : kf_dj cX8_skipBlanks 35 38 0 .goto := ⟨(-35), by decide +kernel, rfl, by decide⟩
theorem d_X8_skipBlanks_38 : kf_dq cX8_skipBlanks 38 39 1 (.return_) := ⟨by decide +kernel, rfl⟩
def f_X8_skipBlanks_0_s (rec0 : Nat → kf_St → Option kf_St) (v0 : Nat) (σ : kf_St) : Option kf_St :=
  if (σ.1 v0 0) ≤ (σ.1 v0 6) then
    some σ
  else
    (f_X8_byteAt v0 (σ.1 v0 6) σ).bind fun q_2 =>
    (f_X8_isBlank q_2.1 q_2.2).bind fun q_3 =>
    if q_3.1 = 0 then
      some q_3.2
    else
      kf_lt (kf_wi q_3.2 v0 6 ((q_3.2.1 v0 6) + 1)) fun σ_5 =>
      rec0 v0 σ_5
def f_X8_skipBlanks_0 : Nat → Nat → kf_St → Option kf_St
  | 0, _, _ => none
  | n + 1, v0, σ => f_X8_skipBlanks_0_s (f_X8_skipBlanks_0 n) v0 σ
set_option maxRecDepth 100000 in
set_option maxHeartbeats 4000000 in
theorem b_X8_skipBlanks_0_s {X : kf_X} {G : kf_G} (rec0 : Nat → kf_St → Option kf_St) {q : kf_St} (E : kf_ok X G cX8_skipBlanks RX8 1 none (2)) (hty : kf_wt G) (hrec0 : ∀ (v0 : Nat) (k_v0 : kf_kd G v0 = 9) (σ : kf_St), rec0 v0 σ = some q → kf_WA X G 1 (kf_Q X G none q) 0 [(0, .ref (kf_ad G v0))] [] σ) (v0 : Nat) (k_v0 : kf_kd G v0 = 9) (σ : kf_St) (h : f_X8_skipBlanks_0_s rec0 v0 σ = some q) : kf_WA X G 1 (kf_Q X G none q) 0 [(0, .ref (kf_ad G v0))] [] σ := by
  unfold f_X8_skipBlanks_0_s at h
  refine wa_aload_n 0 rfl E d_X8_skipBlanks_0 ?_
  refine wa_getI fl_X8_54 k_v0 rfl E d_X8_skipBlanks_1 ?_
  refine wa_aload_n 0 rfl E d_X8_skipBlanks_4 ?_
  refine wa_getI fl_X8_51 k_v0 rfl E d_X8_skipBlanks_5 ?_
  refine wa_icmp_ge E d_X8_skipBlanks_8 (fun c_1 => ?_) (fun c_1 => ?_)
  · replace h := kf_ift c_1 h
    cases h
    exact wa_vret E d_X8_skipBlanks_38
  · replace h := kf_iff c_1 h
    refine wa_aload_n 0 rfl E d_X8_skipBlanks_11 ?_
    refine wa_aload_n 0 rfl E d_X8_skipBlanks_12 ?_
    refine wa_getI fl_X8_54 k_v0 rfl E d_X8_skipBlanks_13 ?_
    obtain ⟨q_2, hq_2, h⟩ := kf_bd h
    refine wa_callV (st2 := [.int q_2.1]) (c_X8_byteAt hty v0 (σ.1 v0 6) k_v0 σ hq_2) mv_X8_byteAt ml_X8_70 k_v0 rfl (Nat.le_of_ble_eq_true rfl) rfl (Nat.le_of_ble_eq_true rfl) E d_X8_skipBlanks_16 rfl ?_
    obtain ⟨q_3, hq_3, h⟩ := kf_bd h
    refine wa_callS (st2 := [.int q_3.1]) (c_X8_isBlank hty q_2.1 q_2.2 hq_3) mt_X8_isBlank ml_X8_74 rfl (Nat.le_of_ble_eq_true rfl) rfl (Nat.le_of_ble_eq_true rfl) E d_X8_skipBlanks_19 rfl ?_
    refine wa_if_eq E d_X8_skipBlanks_22 (fun c_4 => ?_) (fun c_4 => ?_)
    · replace h := kf_ift c_4 h
      cases h
      exact wa_vret E d_X8_skipBlanks_38
    · replace h := kf_iff c_4 h
      refine wa_aload_n 0 rfl E d_X8_skipBlanks_25 ?_
      refine wa_dup rfl E d_X8_skipBlanks_26 ?_
      refine wa_getI fl_X8_54 k_v0 rfl E d_X8_skipBlanks_27 ?_
      refine wa_iconst 1 ic_1 E d_X8_skipBlanks_30 ?_
      refine wa_iadd E d_X8_skipBlanks_31 ?_
      obtain ⟨σ_5, eσ_5, h⟩ := kf_lte h
      refine wa_putI fl_X8_54 fp_8_6 k_v0 rfl (by decide) rfl rfl E d_X8_skipBlanks_32 eσ_5 ?_
      refine wa_goto E d_X8_skipBlanks_35 ?_
      exact hrec0 v0 k_v0 σ_5 h
theorem b_X8_skipBlanks_0 {X : kf_X} {G : kf_G} {q : kf_St} (E : kf_ok X G cX8_skipBlanks RX8 1 none (2)) (hty : kf_wt G) : ∀ (N : Nat) (v0 : Nat) (k_v0 : kf_kd G v0 = 9) (σ : kf_St) (_ : f_X8_skipBlanks_0 N v0 σ = some q), kf_WA X G 1 (kf_Q X G none q) 0 [(0, .ref (kf_ad G v0))] [] σ
  | 0, _, _, _, h => by cases h
  | N + 1, v0, k_v0, σ, h => b_X8_skipBlanks_0_s _ E hty (b_X8_skipBlanks_0 E hty N) v0 k_v0 σ h
def f_X8_skipBlanks (v0 : Nat) (σ : kf_St) : Option kf_St :=
  f_X8_skipBlanks_0 kf_F v0 σ
set_option maxRecDepth 100000 in
set_option maxHeartbeats 4000000 in
theorem c_X8_skipBlanks {G : kf_G} (hty : kf_wt G) (v0 : Nat) (k_v0 : kf_kd G v0 = 9) (σ : kf_St) {q : kf_St} (h : f_X8_skipBlanks v0 σ = some q) : kf_Ct (2) yX8_skipBlanks cX8_skipBlanks 1 none G [.ref (kf_ad G v0)] σ none q := by
  refine kf_Ct.of hty.1 (lv := [(0, .ref (kf_ad G v0))]) (by decide +kernel) rfl (Nat.le_of_ble_eq_true rfl) (fun X E => ?_)
  unfold f_X8_skipBlanks at h
  exact b_X8_skipBlanks_0 E hty kf_F v0 k_v0 σ h
/-! X8_isLetter -/
theorem d_X8_isLetter_0 : kf_dq cX8_isLetter 0 1 1 (.iload_n 0) := ⟨by decide +kernel, rfl⟩
theorem d_X8_isLetter_1 : kf_dq cX8_isLetter 1 3 2 (.bipush 97) := ⟨by decide +kernel, rfl⟩
theorem d_X8_isLetter_3 : kf_dj cX8_isLetter 3 6 16 (.if_icmp .lt) := ⟨13, by decide +kernel, rfl, by decide⟩
theorem d_X8_isLetter_6 : kf_dq cX8_isLetter 6 7 1 (.iload_n 0) := ⟨by decide +kernel, rfl⟩
theorem d_X8_isLetter_7 : kf_dq cX8_isLetter 7 9 2 (.bipush 122) := ⟨by decide +kernel, rfl⟩
theorem d_X8_isLetter_9 : kf_dj cX8_isLetter 9 12 16 (.if_icmp .gt) := ⟨7, by decide +kernel, rfl, by decide⟩
theorem d_X8_isLetter_12 : kf_dq cX8_isLetter 12 13 1 (.iconst 1) := ⟨by decide +kernel, rfl⟩
theorem d_X8_isLetter_13 : kf_dj cX8_isLetter 13 16 17 .goto := ⟨4, by decide +kernel, rfl, by decide⟩
theorem d_X8_isLetter_16 : kf_dq cX8_isLetter 16 17 1 (.iconst 0) := ⟨by decide +kernel, rfl⟩
theorem d_X8_isLetter_17 : kf_dq cX8_isLetter 17 18 1 (.ireturn) := ⟨by decide +kernel, rfl⟩
def f_X8_isLetter (v0 : Int32) (σ : kf_St) : Option (Int32 × kf_St) :=
  if v0 < 97 then
    some (0, σ)
  else
    if 122 < v0 then
      some (0, σ)
    else
      some (1, σ)
set_option maxRecDepth 100000 in
set_option maxHeartbeats 4000000 in
theorem c_X8_isLetter {G : kf_G} (hty : kf_wt G) (v0 : Int32) (σ : kf_St) {q : (Int32 × kf_St)} (h : f_X8_isLetter v0 σ = some q) : kf_Ct (1) yX8_isLetter cX8_isLetter 1 (some .boolean) G [.int v0] σ (some (.int q.1)) q.2 := by
  refine kf_Ct.of hty.1 (lv := [(0, .int v0)]) (by decide +kernel) rfl (Nat.le_of_ble_eq_true rfl) (fun X E => ?_)
  unfold f_X8_isLetter at h
  refine wa_iload_n 0 rfl E d_X8_isLetter_0 ?_
  refine wa_bipush 97 bp_97 E d_X8_isLetter_1 ?_
  refine wa_icmp_lt E d_X8_isLetter_3 (fun c_1 => ?_) (fun c_1 => ?_)
  · replace h := kf_ift c_1 h
    refine wa_iconst 0 ic_0 E d_X8_isLetter_16 ?_
    cases h
    exact wa_zret kf_z0 E d_X8_isLetter_17
  · replace h := kf_iff c_1 h
    refine wa_iload_n 0 rfl E d_X8_isLetter_6 ?_
    refine wa_bipush 122 bp_122 E d_X8_isLetter_7 ?_
    refine wa_icmp_gt E d_X8_isLetter_9 (fun c_2 => ?_) (fun c_2 => ?_)
    · replace h := kf_ift c_2 h
      refine wa_iconst 0 ic_0 E d_X8_isLetter_16 ?_
      cases h
      exact wa_zret kf_z0 E d_X8_isLetter_17
    · replace h := kf_iff c_2 h
      refine wa_iconst 1 ic_1 E d_X8_isLetter_12 ?_
      refine wa_goto E d_X8_isLetter_13 ?_
      cases h
      exact wa_zret kf_z1 E d_X8_isLetter_17
/-! X8_withLetter -/
theorem d_X8_withLetter_0 : kf_dq cX8_withLetter 0 3 3 (.ldc2_w 49) := ⟨by decide +kernel, rfl⟩
theorem d_X8_withLetter_3 : kf_dq cX8_withLetter 3 4 1 (.lload_n 0) := ⟨by decide +kernel, rfl⟩
theorem d_X8_withLetter_4 : kf_dq cX8_withLetter 4 5 1 (.lmul) := ⟨by decide +kernel, rfl⟩
theorem d_X8_withLetter_5 : kf_dq cX8_withLetter 5 6 1 (.iload_n 2) := ⟨by decide +kernel, rfl⟩
theorem d_X8_withLetter_6 : kf_dq cX8_withLetter 6 8 2 (.bipush 97) := ⟨by decide +kernel, rfl⟩
theorem d_X8_withLetter_8 : kf_dq cX8_withLetter 8 9 1 (.isub) := ⟨by decide +kernel, rfl⟩
theorem d_X8_withLetter_9 : kf_dq cX8_withLetter 9 10 1 (.iconst 1) := ⟨by decide +kernel, rfl⟩
theorem d_X8_withLetter_10 : kf_dq cX8_withLetter 10 11 1 (.iadd) := ⟨by decide +kernel, rfl⟩
theorem d_X8_withLetter_11 : kf_dq cX8_withLetter 11 12 1 (.i2l) := ⟨by decide +kernel, rfl⟩
theorem d_X8_withLetter_12 : kf_dq cX8_withLetter 12 13 1 (.ladd) := ⟨by decide +kernel, rfl⟩
theorem d_X8_withLetter_13 : kf_dq cX8_withLetter 13 14 1 (.lreturn) := ⟨by decide +kernel, rfl⟩
def f_X8_withLetter (v0 : Int64) (v2 : Int32) (σ : kf_St) : Option (Int64 × kf_St) :=
  some ((((27 : Int64) * v0) + (Int32.toInt64 ((v2 - 97) + 1))), σ)
set_option maxRecDepth 100000 in
set_option maxHeartbeats 4000000 in
theorem c_X8_withLetter {G : kf_G} (hty : kf_wt G) (v0 : Int64) (v2 : Int32) (σ : kf_St) {q : (Int64 × kf_St)} (h : f_X8_withLetter v0 v2 σ = some q) : kf_Ct (1) yX8_withLetter cX8_withLetter 3 (some .long) G [.long v0, .int v2] σ (some (.long q.1)) q.2 := by
  refine kf_Ct.of hty.1 (lv := [(0, .long v0), (2, .int v2)]) (by decide +kernel) rfl (Nat.le_of_ble_eq_true rfl) (fun X E => ?_)
  unfold f_X8_withLetter at h
  refine wa_ldc2 cstl_X8_49 E d_X8_withLetter_0 ?_
  refine wa_lload_n 0 rfl E d_X8_withLetter_3 ?_
  refine wa_lmul E d_X8_withLetter_4 ?_
  refine wa_iload_n 1 rfl E d_X8_withLetter_5 ?_
  refine wa_bipush 97 bp_97 E d_X8_withLetter_6 ?_
  refine wa_isub E d_X8_withLetter_8 ?_
  refine wa_iconst 1 ic_1 E d_X8_withLetter_9 ?_
  refine wa_iadd E d_X8_withLetter_10 ?_
  refine wa_i2l E d_X8_withLetter_11 ?_
  refine wa_ladd E d_X8_withLetter_12 ?_
  cases h
  exact wa_lret E d_X8_withLetter_13
/-! X8_cutWord -/
theorem d_X8_cutWord_0 : kf_dq cX8_cutWord 0 1 1 (.aload_n 0) := ⟨by decide +kernel, rfl⟩
theorem d_X8_cutWord_1 : kf_dq cX8_cutWord 1 4 3 (.getfield 54) := ⟨by decide +kernel, rfl⟩
theorem d_X8_cutWord_4 : kf_dq cX8_cutWord 4 5 1 (.istore_n 1) := ⟨by decide +kernel, rfl⟩
theorem d_X8_cutWord_5 : kf_dq cX8_cutWord 5 6 1 (.aload_n 0) := ⟨by decide +kernel, rfl⟩
theorem d_X8_cutWord_6 : kf_dq cX8_cutWord 6 9 3 (.getfield 54) := ⟨by decide +kernel, rfl⟩
theorem d_X8_cutWord_9 : kf_dq cX8_cutWord 9 10 1 (.aload_n 0) := ⟨by decide +kernel, rfl⟩
theorem d_X8_cutWord_10 : kf_dq cX8_cutWord 10 13 3 (.getfield 51) := ⟨by decide +kernel, rfl⟩
theorem d_X8_cutWord_13 : kf_dj cX8_cutWord 13 16 62 (.if_icmp .ge) := ⟨49, by decide +kernel, rfl, by decide⟩
theorem d_X8_cutWord_16 : kf_dq cX8_cutWord 16 17 1 (.aload_n 0) := ⟨by decide +kernel, rfl⟩
theorem d_X8_cutWord_17 : kf_dq cX8_cutWord 17 18 1 (.aload_n 0) := ⟨by decide +kernel, rfl⟩
theorem d_X8_cutWord_18 : kf_dq cX8_cutWord 18 21 3 (.getfield 54) := ⟨by decide +kernel, rfl⟩
theorem d_X8_cutWord_21 : kf_dq cX8_cutWord 21 24 3 (.invokevirtual 70) := ⟨by decide +kernel, rfl⟩
theorem d_X8_cutWord_24 : kf_dq cX8_cutWord 24 27 3 (.invokestatic 78) := ⟨by decide +kernel, rfl⟩
theorem d_X8_cutWord_27 : kf_dj cX8_cutWord 27 30 62 (.ifCond .eq) := ⟨35, by decide +kernel, rfl, by decide⟩
theorem d_X8_cutWord_30 : kf_dq cX8_cutWord 30 31 1 (.aload_n 0) := ⟨by decide +kernel, rfl⟩
theorem d_X8_cutWord_31 : kf_dq cX8_cutWord 31 32 1 (.aload_n 0) := ⟨by decide +kernel, rfl⟩
theorem d_X8_cutWord_32 : kf_dq cX8_cutWord 32 35 3 (.getfield 66) := ⟨by decide +kernel, rfl⟩
theorem d_X8_cutWord_35 : kf_dq cX8_cutWord 35 36 1 (.aload_n 0) := ⟨by decide +kernel, rfl⟩
theorem d_X8_cutWord_36 : kf_dq cX8_cutWord 36 37 1 (.aload_n 0) := ⟨by decide +kernel, rfl⟩
theorem d_X8_cutWord_37 : kf_dq cX8_cutWord 37 40 3 (.getfield 54) := ⟨by decide +kernel, rfl⟩
theorem d_X8_cutWord_40 : kf_dq cX8_cutWord 40 43 3 (.invokevirtual 70) := ⟨by decide +kernel, rfl⟩
theorem d_X8_cutWord_43 : kf_dq cX8_cutWord 43 46 3 (.invokestatic 45) := ⟨by decide +kernel, rfl⟩
theorem d_X8_cutWord_46 : kf_dq cX8_cutWord 46 49 3 (.putfield 66) := ⟨by decide +kernel, rfl⟩
theorem d_X8_cutWord_49 : kf_dq cX8_cutWord 49 50 1 (.aload_n 0) := ⟨by decide +kernel, rfl⟩
theorem d_X8_cutWord_50 : kf_dq cX8_cutWord 50 51 1 (.dup) := ⟨by decide +kernel, rfl⟩
theorem d_X8_cutWord_51 : kf_dq cX8_cutWord 51 54 3 (.getfield 54) := ⟨by decide +kernel, rfl⟩
theorem d_X8_cutWord_54 : kf_dq cX8_cutWord 54 55 1 (.iconst 1) := ⟨by decide +kernel, rfl⟩
theorem d_X8_cutWord_55 : kf_dq cX8_cutWord 55 56 1 (.iadd) := ⟨by decide +kernel, rfl⟩
theorem d_X8_cutWord_56 : kf_dq cX8_cutWord 56 59 3 (.putfield 54) := ⟨by decide +kernel, rfl⟩
theorem d_X8_cutWord_59 : kf_dj cX8_cutWord 59 62 5 .goto := ⟨(-54), by decide +kernel, rfl, by decide⟩
theorem d_X8_cutWord_62 : kf_dq cX8_cutWord 62 63 1 (.aload_n 0) := ⟨by decide +kernel, rfl⟩
theorem d_X8_cutWord_63 : kf_dq cX8_cutWord 63 64 1 (.aload_n 0) := ⟨by decide +kernel, rfl⟩
theorem d_X8_cutWord_64 : kf_dq cX8_cutWord 64 67 3 (.getfield 54) := ⟨by decide +kernel, rfl⟩
theorem d_X8_cutWord_67 : kf_dq cX8_cutWord 67 68 1 (.iload_n 1) := ⟨by decide +kernel, rfl⟩
theorem d_X8_cutWord_68 : kf_dq cX8_cutWord 68 69 1 (.isub) := ⟨by decide +kernel, rfl⟩
theorem d_X8_cutWord_69 : kf_dq cX8_cutWord 69 71 2 (.bipush 8) := ⟨by decide +kernel, rfl⟩
theorem d_X8_cutWord_71 : kf_dj cX8_cutWord 71 74 78 (.if_icmp .le) := ⟨7, by decide +kernel, rfl, by decide⟩
theorem d_X8_cutWord_74 : kf_dq cX8_cutWord 74 75 1 (.iconst 1) := ⟨by decide +kernel, rfl⟩
theorem d_X8_cutWord_75 : kf_dj cX8_cutWord 75 78 79 .goto := ⟨4, by decide +kernel, rfl, by decide⟩
theorem d_X8_cutWord_78 : kf_dq cX8_cutWord 78 79 1 (.iconst 2) := ⟨by decide +kernel, rfl⟩
theorem d_X8_cutWord_79 : kf_dq cX8_cutWord 79 82 3 (.putfield 57) := ⟨by decide +kernel, rfl⟩
theorem d_X8_cutWord_82 : kf_dq cX8_cutWord 82 83 1 (.iconst 0) := ⟨by decide +kernel, rfl⟩
theorem d_X8_cutWord_83 : kf_dq cX8_cutWord 83 84 1 (.istore_n 2) := ⟨by decide +kernel, rfl⟩
theorem d_X8_cutWord_84 : kf_dq cX8_cutWord 84 85 1 (.iload_n 2) := ⟨by decide +kernel, rfl⟩
theorem d_X8_cutWord_85 : kf_dq cX8_cutWord 85 86 1 (.aload_n 0) := ⟨by decide +kernel, rfl⟩
theorem d_X8_cutWord_86 : kf_dq cX8_cutWord 86 89 3 (.getfield 19) := ⟨by decide +kernel, rfl⟩
theorem d_X8_cutWord_89 : kf_dq cX8_cutWord 89 90 1 (.arraylength) := ⟨by decide +kernel, rfl⟩
theorem d_X8_cutWord_90 : kf_dj cX8_cutWord 90 93 130 (.if_icmp .ge) := ⟨40, by decide +kernel, rfl, by decide⟩
theorem d_X8_cutWord_93 : kf_dq cX8_cutWord 93 94 1 (.aload_n 0) := ⟨by decide +kernel, rfl⟩
theorem d_X8_cutWord_94 : kf_dq cX8_cutWord 94 97 3 (.getfield 57) := ⟨by decide +kernel, rfl⟩
theorem d_X8_cutWord_97 : kf_dq cX8_cutWord 97 98 1 (.iconst 2) := ⟨by decide +kernel, rfl⟩
theorem d_X8_cutWord_98 : kf_dj cX8_cutWord 98 101 130 (.if_icmp .ne) := ⟨32, by decide +kernel, rfl, by decide⟩
theorem d_X8_cutWord_101 : kf_dq cX8_cutWord 101 102 1 (.aload_n 0) := ⟨by decide +kernel, rfl⟩
theorem d_X8_cutWord_102 : kf_dq cX8_cutWord 102 105 3 (.getfield 19) := ⟨by decide +kernel, rfl⟩
theorem d_X8_cutWord_105 : kf_dq cX8_cutWord 105 106 1 (.iload_n 2) := ⟨by decide +kernel, rfl⟩
theorem d_X8_cutWord_106 : kf_dq cX8_cutWord 106 107 1 (.laload) := ⟨by decide +kernel, rfl⟩
theorem d_X8_cutWord_107 : kf_dq cX8_cutWord 107 108 1 (.aload_n 0) := ⟨by decide +kernel, rfl⟩
theorem d_X8_cutWord_108 : kf_dq cX8_cutWord 108 111 3 (.getfield 66) := ⟨by decide +kernel, rfl⟩
theorem d_X8_cutWord_111 : kf_dq cX8_cutWord 111 112 1 (.lcmp) := ⟨by decide +kernel, rfl⟩
theorem d_X8_cutWord_112 : kf_dj cX8_cutWord 112 115 124 (.ifCond .ne) := ⟨12, by decide +kernel, rfl, by decide⟩
theorem d_X8_cutWord_115 : kf_dq cX8_cutWord 115 116 1 (.aload_n 0) := ⟨by decide +kernel, rfl⟩
theorem d_X8_cutWord_116 : kf_dq cX8_cutWord 116 119 3 (.sipush 256) := ⟨by decide +kernel, rfl⟩
theorem d_X8_cutWord_119 : kf_dq cX8_cutWord 119 120 1 (.iload_n 2) := ⟨by decide +kernel, rfl⟩
theorem d_X8_cutWord_120 : kf_dq cX8_cutWord 120 121 1 (.iadd) := ⟨by decide +kernel, rfl⟩
theorem d_X8_cutWord_121 : kf_dq cX8_cutWord 121 124 3 (.putfield 57) := ⟨by decide +kernel, rfl⟩
theorem d_X8_cutWord_124 : kf_dq cX8_cutWord 124 127 3 (.iinc 2 1) := ⟨by decide +kernel, rfl⟩
theorem d_X8_cutWord_127 : kf_dj cX8_cutWord 127 130 84 .goto := ⟨(-43), by decide +kernel, rfl, by decide⟩
theorem d_X8_cutWord_130 : kf_dq cX8_cutWord 130 131 1 (.return_) := ⟨by decide +kernel, rfl⟩
def f_X8_cutWord_124 (rec84 : Nat → Int32 → kf_St → Option kf_St) (v0 : Nat) (v2 : Int32) (σ : kf_St) : Option kf_St :=
  kf_lt (v2 + 1) fun v2_1 =>
  rec84 v0 v2_1 σ
set_option maxRecDepth 100000 in
set_option maxHeartbeats 4000000 in
theorem b_X8_cutWord_124 {X : kf_X} {G : kf_G} {rec84 : Nat → Int32 → kf_St → Option kf_St} {q : kf_St} (E : kf_ok X G cX8_cutWord RX8 3 none (2)) (hty : kf_wt G) (hrec84 : ∀ (v0 : Nat) (v2 : Int32) (k_v0 : kf_kd G v0 = 9) (σ : kf_St), rec84 v0 v2 σ = some q → kf_WA X G 3 (kf_Q X G none q) 84 [(0, .ref (kf_ad G v0)), (2, .int v2)] [] σ) (v0 : Nat) (v2 : Int32) (k_v0 : kf_kd G v0 = 9) (σ : kf_St) (h : f_X8_cutWord_124 rec84 v0 v2 σ = some q) : kf_WA X G 3 (kf_Q X G none q) 124 [(0, .ref (kf_ad G v0)), (2, .int v2)] [] σ := by
  unfold f_X8_cutWord_124 at h
  obtain ⟨v2_1, ev2_1, h⟩ := kf_lte h
  refine wa_iinc (lv' := [(2, .int v2_1), (0, .ref (kf_ad G v0))]) v2_1 1 rfl (kf_inc ic_1 ev2_1) (by decide) rfl E d_X8_cutWord_124 ?_
  refine wa_goto E d_X8_cutWord_127 ?_
  refine wa_sub [1, 0] rfl ?_
  exact hrec84 v0 v2_1 k_v0 σ h
def f_X8_cutWord_84_s (rec84 : Nat → Int32 → kf_St → Option kf_St) (v0 : Nat) (v2 : Int32) (σ : kf_St) : Option kf_St :=
  if (nI (kf_ln (kf_rf v0 2))) ≤ v2 then
    some σ
  else
    if (σ.1 v0 7) = 2 then
      if kf_ix v2 (kf_ln (kf_rf v0 2)) = true then
      if (lg_cmp (σ.2 (kf_rf v0 2) (Int32.toNatClampNeg v2)) (σ.2 v0 8)) = 0 then
        kf_lt (kf_wi σ v0 7 (256 + v2)) fun σ_5 =>
        f_X8_cutWord_124 rec84 v0 v2 σ_5
      else
        f_X8_cutWord_124 rec84 v0 v2 σ
      else none
    else
      some σ
def f_X8_cutWord_84 : Nat → Nat → Int32 → kf_St → Option kf_St
  | 0, _, _, _ => none
  | n + 1, v0, v2, σ => f_X8_cutWord_84_s (f_X8_cutWord_84 n) v0 v2 σ
set_option maxRecDepth 100000 in
set_option maxHeartbeats 4000000 in
theorem b_X8_cutWord_84_s {X : kf_X} {G : kf_G} (rec84 : Nat → Int32 → kf_St → Option kf_St) {q : kf_St} (E : kf_ok X G cX8_cutWord RX8 3 none (2)) (hty : kf_wt G) (hrec84 : ∀ (v0 : Nat) (v2 : Int32) (k_v0 : kf_kd G v0 = 9) (σ : kf_St), rec84 v0 v2 σ = some q → kf_WA X G 3 (kf_Q X G none q) 84 [(0, .ref (kf_ad G v0)), (2, .int v2)] [] σ) (v0 : Nat) (v2 : Int32) (k_v0 : kf_kd G v0 = 9) (σ : kf_St) (h : f_X8_cutWord_84_s rec84 v0 v2 σ = some q) : kf_WA X G 3 (kf_Q X G none q) 84 [(0, .ref (kf_ad G v0)), (2, .int v2)] [] σ := by
  unfold f_X8_cutWord_84_s at h
  refine wa_iload_n 1 rfl E d_X8_cutWord_84 ?_
  refine wa_aload_n 0 rfl E d_X8_cutWord_85 ?_
  refine wa_getR fl_X8_19 k_v0 rfl E d_X8_cutWord_86 ?_
  refine wa_alen_l (kf_wtf hty 2 50 k_v0 (by decide) rfl) E d_X8_cutWord_89 ?_
  refine wa_icmp_ge E d_X8_cutWord_90 (fun c_1 => ?_) (fun c_1 => ?_)
  · replace h := kf_ift c_1 h
    cases h
    exact wa_vret E d_X8_cutWord_130
  · replace h := kf_iff c_1 h
    refine wa_aload_n 0 rfl E d_X8_cutWord_93 ?_
    refine wa_getI fl_X8_57 k_v0 rfl E d_X8_cutWord_94 ?_
    refine wa_iconst 2 ic_2 E d_X8_cutWord_97 ?_
    refine wa_icmp_ne E d_X8_cutWord_98 (fun c_2 => ?_) (fun c_2 => ?_)
    · replace h := kf_iff c_2 h
      cases h
      exact wa_vret E d_X8_cutWord_130
    · replace h := kf_ift c_2 h
      refine wa_aload_n 0 rfl E d_X8_cutWord_101 ?_
      refine wa_getR fl_X8_19 k_v0 rfl E d_X8_cutWord_102 ?_
      refine wa_iload_n 1 rfl E d_X8_cutWord_105 ?_
      obtain ⟨g_3, h⟩ := kf_gd h
      refine wa_lald (kf_wtf hty 2 50 k_v0 (by decide) rfl) g_3 E d_X8_cutWord_106 ?_
      refine wa_aload_n 0 rfl E d_X8_cutWord_107 ?_
      refine wa_getJ fl_X8_66 k_v0 rfl E d_X8_cutWord_108 ?_
      refine wa_lcmp E d_X8_cutWord_111 ?_
      refine wa_if_ne E d_X8_cutWord_112 (fun c_4 => ?_) (fun c_4 => ?_)
      · replace h := kf_iff c_4 h
        exact b_X8_cutWord_124 E hty hrec84 v0 v2 k_v0 σ h
      · replace h := kf_ift c_4 h
        refine wa_aload_n 0 rfl E d_X8_cutWord_115 ?_
        refine wa_sipush 256 sp_256 E d_X8_cutWord_116 ?_
        refine wa_iload_n 1 rfl E d_X8_cutWord_119 ?_
        refine wa_iadd E d_X8_cutWord_120 ?_
        obtain ⟨σ_5, eσ_5, h⟩ := kf_lte h
        refine wa_putI fl_X8_57 fp_8_7 k_v0 rfl (by decide) rfl rfl E d_X8_cutWord_121 eσ_5 ?_
        exact b_X8_cutWord_124 E hty hrec84 v0 v2 k_v0 σ_5 h
theorem b_X8_cutWord_84 {X : kf_X} {G : kf_G} {q : kf_St} (E : kf_ok X G cX8_cutWord RX8 3 none (2)) (hty : kf_wt G) : ∀ (N : Nat) (v0 : Nat) (v2 : Int32) (k_v0 : kf_kd G v0 = 9) (σ : kf_St) (_ : f_X8_cutWord_84 N v0 v2 σ = some q), kf_WA X G 3 (kf_Q X G none q) 84 [(0, .ref (kf_ad G v0)), (2, .int v2)] [] σ
  | 0, _, _, _, _, h => by cases h
  | N + 1, v0, v2, k_v0, σ, h => b_X8_cutWord_84_s _ E hty (b_X8_cutWord_84 E hty N) v0 v2 k_v0 σ h
def f_X8_cutWord_79 (v0 : Nat) (s0 : Nat) (s1 : Int32) (σ : kf_St) : Option kf_St :=
  kf_lt (kf_wi σ s0 7 s1) fun σ_1 =>
  f_X8_cutWord_84 kf_F v0 0 σ_1
set_option maxRecDepth 100000 in
set_option maxHeartbeats 4000000 in
theorem b_X8_cutWord_79 {X : kf_X} {G : kf_G} {q : kf_St} (E : kf_ok X G cX8_cutWord RX8 3 none (2)) (hty : kf_wt G) (v0 : Nat) (s0 : Nat) (s1 : Int32) (k_v0 : kf_kd G v0 = 9) (k_s0 : kf_kd G s0 = 9) (σ : kf_St) (h : f_X8_cutWord_79 v0 s0 s1 σ = some q) : kf_WA X G 3 (kf_Q X G none q) 79 [(0, .ref (kf_ad G v0))] [.int s1, .ref (kf_ad G s0)] σ := by
  unfold f_X8_cutWord_79 at h
  obtain ⟨σ_1, eσ_1, h⟩ := kf_lte h
  refine wa_putI fl_X8_57 fp_8_7 k_s0 rfl (by decide) rfl rfl E d_X8_cutWord_79 eσ_1 ?_
  refine wa_iconst 0 ic_0 E d_X8_cutWord_82 ?_
  refine wa_istore_n (lv' := [(2, .int 0), (0, .ref (kf_ad G v0))]) rfl (by decide) rfl E d_X8_cutWord_83 ?_
  refine wa_sub [1, 0] rfl ?_
  exact b_X8_cutWord_84 E hty kf_F v0 0 k_v0 σ_1 h
def f_X8_cutWord_62 (v0 : Nat) (v1 : Int32) (σ : kf_St) : Option kf_St :=
  if ((σ.1 v0 6) - v1) ≤ 8 then
    f_X8_cutWord_79 v0 v0 2 σ
  else
    f_X8_cutWord_79 v0 v0 1 σ
set_option maxRecDepth 100000 in
set_option maxHeartbeats 4000000 in
theorem b_X8_cutWord_62 {X : kf_X} {G : kf_G} {q : kf_St} (E : kf_ok X G cX8_cutWord RX8 3 none (2)) (hty : kf_wt G) (v0 : Nat) (v1 : Int32) (k_v0 : kf_kd G v0 = 9) (σ : kf_St) (h : f_X8_cutWord_62 v0 v1 σ = some q) : kf_WA X G 3 (kf_Q X G none q) 62 [(0, .ref (kf_ad G v0)), (1, .int v1)] [] σ := by
  unfold f_X8_cutWord_62 at h
  refine wa_aload_n 0 rfl E d_X8_cutWord_62 ?_
  refine wa_aload_n 0 rfl E d_X8_cutWord_63 ?_
  refine wa_getI fl_X8_54 k_v0 rfl E d_X8_cutWord_64 ?_
  refine wa_iload_n 1 rfl E d_X8_cutWord_67 ?_
  refine wa_isub E d_X8_cutWord_68 ?_
  refine wa_bipush 8 bp_8 E d_X8_cutWord_69 ?_
  refine wa_icmp_le E d_X8_cutWord_71 (fun c_1 => ?_) (fun c_1 => ?_)
  · replace h := kf_ift c_1 h
    refine wa_iconst 2 ic_2 E d_X8_cutWord_78 ?_
    refine wa_sub [0] rfl ?_
    exact b_X8_cutWord_79 E hty v0 v0 2 k_v0 k_v0 σ h
  · replace h := kf_iff c_1 h
    refine wa_iconst 1 ic_1 E d_X8_cutWord_74 ?_
    refine wa_goto E d_X8_cutWord_75 ?_
    refine wa_sub [0] rfl ?_
    exact b_X8_cutWord_79 E hty v0 v0 1 k_v0 k_v0 σ h
def f_X8_cutWord_5_s (rec5 : Nat → Int32 → kf_St → Option kf_St) (v0 : Nat) (v1 : Int32) (σ : kf_St) : Option kf_St :=
  if (σ.1 v0 0) ≤ (σ.1 v0 6) then
    f_X8_cutWord_62 v0 v1 σ
  else
    (f_X8_byteAt v0 (σ.1 v0 6) σ).bind fun q_2 =>
    (f_X8_isLetter q_2.1 q_2.2).bind fun q_3 =>
    if q_3.1 = 0 then
      f_X8_cutWord_62 v0 v1 q_3.2
    else
      (f_X8_byteAt v0 (q_3.2.1 v0 6) q_3.2).bind fun q_5 =>
      (f_X8_withLetter (q_3.2.2 v0 8) q_5.1 q_5.2).bind fun q_6 =>
      kf_lt (kf_wl q_6.2 v0 8 q_6.1) fun σ_7 =>
      kf_lt (kf_wi σ_7 v0 6 ((σ_7.1 v0 6) + 1)) fun σ_8 =>
      rec5 v0 v1 σ_8
def f_X8_cutWord_5 : Nat → Nat → Int32 → kf_St → Option kf_St
  | 0, _, _, _ => none
  | n + 1, v0, v1, σ => f_X8_cutWord_5_s (f_X8_cutWord_5 n) v0 v1 σ
set_option maxRecDepth 100000 in
set_option maxHeartbeats 4000000 in
theorem b_X8_cutWord_5_s {X : kf_X} {G : kf_G} (rec5 : Nat → Int32 → kf_St → Option kf_St) {q : kf_St} (E : kf_ok X G cX8_cutWord RX8 3 none (2)) (hty : kf_wt G) (hrec5 : ∀ (v0 : Nat) (v1 : Int32) (k_v0 : kf_kd G v0 = 9) (σ : kf_St), rec5 v0 v1 σ = some q → kf_WA X G 3 (kf_Q X G none q) 5 [(0, .ref (kf_ad G v0)), (1, .int v1)] [] σ) (v0 : Nat) (v1 : Int32) (k_v0 : kf_kd G v0 = 9) (σ : kf_St) (h : f_X8_cutWord_5_s rec5 v0 v1 σ = some q) : kf_WA X G 3 (kf_Q X G none q) 5 [(0, .ref (kf_ad G v0)), (1, .int v1)] [] σ := by
  unfold f_X8_cutWord_5_s at h
  refine wa_aload_n 0 rfl E d_X8_cutWord_5 ?_
  refine wa_getI fl_X8_54 k_v0 rfl E d_X8_cutWord_6 ?_
  refine wa_aload_n 0 rfl E d_X8_cutWord_9 ?_
  refine wa_getI fl_X8_51 k_v0 rfl E d_X8_cutWord_10 ?_
  refine wa_icmp_ge E d_X8_cutWord_13 (fun c_1 => ?_) (fun c_1 => ?_)
  · replace h := kf_ift c_1 h
    exact b_X8_cutWord_62 E hty v0 v1 k_v0 σ h
  · replace h := kf_iff c_1 h
    refine wa_aload_n 0 rfl E d_X8_cutWord_16 ?_
    refine wa_aload_n 0 rfl E d_X8_cutWord_17 ?_
    refine wa_getI fl_X8_54 k_v0 rfl E d_X8_cutWord_18 ?_
    obtain ⟨q_2, hq_2, h⟩ := kf_bd h
    refine wa_callV (st2 := [.int q_2.1]) (c_X8_byteAt hty v0 (σ.1 v0 6) k_v0 σ hq_2) mv_X8_byteAt ml_X8_70 k_v0 rfl (Nat.le_of_ble_eq_true rfl) rfl (Nat.le_of_ble_eq_true rfl) E d_X8_cutWord_21 rfl ?_
    obtain ⟨q_3, hq_3, h⟩ := kf_bd h
    refine wa_callS (st2 := [.int q_3.1]) (c_X8_isLetter hty q_2.1 q_2.2 hq_3) mt_X8_isLetter ml_X8_78 rfl (Nat.le_of_ble_eq_true rfl) rfl (Nat.le_of_ble_eq_true rfl) E d_X8_cutWord_24 rfl ?_
    refine wa_if_eq E d_X8_cutWord_27 (fun c_4 => ?_) (fun c_4 => ?_)
    · replace h := kf_ift c_4 h
      exact b_X8_cutWord_62 E hty v0 v1 k_v0 q_3.2 h
    · replace h := kf_iff c_4 h
      refine wa_aload_n 0 rfl E d_X8_cutWord_30 ?_
      refine wa_aload_n 0 rfl E d_X8_cutWord_31 ?_
      refine wa_getJ fl_X8_66 k_v0 rfl E d_X8_cutWord_32 ?_
      refine wa_aload_n 0 rfl E d_X8_cutWord_35 ?_
      refine wa_aload_n 0 rfl E d_X8_cutWord_36 ?_
      refine wa_getI fl_X8_54 k_v0 rfl E d_X8_cutWord_37 ?_
      obtain ⟨q_5, hq_5, h⟩ := kf_bd h
      refine wa_callV (st2 := [.int q_5.1, .long (q_3.2.2 v0 8), .ref (kf_ad G v0)]) (c_X8_byteAt hty v0 (q_3.2.1 v0 6) k_v0 q_3.2 hq_5) mv_X8_byteAt ml_X8_70 k_v0 rfl (Nat.le_of_ble_eq_true rfl) rfl (Nat.le_of_ble_eq_true rfl) E d_X8_cutWord_40 rfl ?_
      obtain ⟨q_6, hq_6, h⟩ := kf_bd h
      refine wa_callS (st2 := [.long q_6.1, .ref (kf_ad G v0)]) (c_X8_withLetter hty (q_3.2.2 v0 8) q_5.1 q_5.2 hq_6) mt_X8_withLetter ml_X8_45 rfl (Nat.le_of_ble_eq_true rfl) rfl (Nat.le_of_ble_eq_true rfl) E d_X8_cutWord_43 rfl ?_
      obtain ⟨σ_7, eσ_7, h⟩ := kf_lte h
      refine wa_putJ fl_X8_66 fp_8_8 k_v0 rfl E d_X8_cutWord_46 eσ_7 ?_
      refine wa_aload_n 0 rfl E d_X8_cutWord_49 ?_
      refine wa_dup rfl E d_X8_cutWord_50 ?_
      refine wa_getI fl_X8_54 k_v0 rfl E d_X8_cutWord_51 ?_
      refine wa_iconst 1 ic_1 E d_X8_cutWord_54 ?_
      refine wa_iadd E d_X8_cutWord_55 ?_
      obtain ⟨σ_8, eσ_8, h⟩ := kf_lte h
      refine wa_putI fl_X8_54 fp_8_6 k_v0 rfl (by decide) rfl rfl E d_X8_cutWord_56 eσ_8 ?_
      refine wa_goto E d_X8_cutWord_59 ?_
      exact hrec5 v0 v1 k_v0 σ_8 h
theorem b_X8_cutWord_5 {X : kf_X} {G : kf_G} {q : kf_St} (E : kf_ok X G cX8_cutWord RX8 3 none (2)) (hty : kf_wt G) : ∀ (N : Nat) (v0 : Nat) (v1 : Int32) (k_v0 : kf_kd G v0 = 9) (σ : kf_St) (_ : f_X8_cutWord_5 N v0 v1 σ = some q), kf_WA X G 3 (kf_Q X G none q) 5 [(0, .ref (kf_ad G v0)), (1, .int v1)] [] σ
  | 0, _, _, _, _, h => by cases h
  | N + 1, v0, v1, k_v0, σ, h => b_X8_cutWord_5_s _ E hty (b_X8_cutWord_5 E hty N) v0 v1 k_v0 σ h
def f_X8_cutWord (v0 : Nat) (σ : kf_St) : Option kf_St :=
  kf_lt ((σ.1 v0 6)) fun v1_1 =>
  f_X8_cutWord_5 kf_F v0 v1_1 σ
set_option maxRecDepth 100000 in
set_option maxHeartbeats 4000000 in
theorem c_X8_cutWord {G : kf_G} (hty : kf_wt G) (v0 : Nat) (k_v0 : kf_kd G v0 = 9) (σ : kf_St) {q : kf_St} (h : f_X8_cutWord v0 σ = some q) : kf_Ct (2) yX8_cutWord cX8_cutWord 3 none G [.ref (kf_ad G v0)] σ none q := by
  refine kf_Ct.of hty.1 (lv := [(0, .ref (kf_ad G v0))]) (by decide +kernel) rfl (Nat.le_of_ble_eq_true rfl) (fun X E => ?_)
  unfold f_X8_cutWord at h
  refine wa_aload_n 0 rfl E d_X8_cutWord_0 ?_
  refine wa_getI fl_X8_54 k_v0 rfl E d_X8_cutWord_1 ?_
  obtain ⟨v1_1, ev1_1, h⟩ := kf_lte h
  refine wa_topi ev1_1 ?_
  refine wa_istore_n (lv' := [(1, .int v1_1), (0, .ref (kf_ad G v0))]) rfl (by decide) rfl E d_X8_cutWord_4 ?_
  refine wa_sub [1, 0] rfl ?_
  exact b_X8_cutWord_5 E hty kf_F v0 v1_1 k_v0 σ h
/-! X8_isDigit -/
theorem d_X8_isDigit_0 : kf_dq cX8_isDigit 0 1 1 (.iload_n 0) := ⟨by decide +kernel, rfl⟩
theorem d_X8_isDigit_1 : kf_dq cX8_isDigit 1 3 2 (.bipush 48) := ⟨by decide +kernel, rfl⟩
theorem d_X8_isDigit_3 : kf_dj cX8_isDigit 3 6 16 (.if_icmp .lt) := ⟨13, by decide +kernel, rfl, by decide⟩
theorem d_X8_isDigit_6 : kf_dq cX8_isDigit 6 7 1 (.iload_n 0) := ⟨by decide +kernel, rfl⟩
theorem d_X8_isDigit_7 : kf_dq cX8_isDigit 7 9 2 (.bipush 57) := ⟨by decide +kernel, rfl⟩
theorem d_X8_isDigit_9 : kf_dj cX8_isDigit 9 12 16 (.if_icmp .gt) := ⟨7, by decide +kernel, rfl, by decide⟩
theorem d_X8_isDigit_12 : kf_dq cX8_isDigit 12 13 1 (.iconst 1) := ⟨by decide +kernel, rfl⟩
theorem d_X8_isDigit_13 : kf_dj cX8_isDigit 13 16 17 .goto := ⟨4, by decide +kernel, rfl, by decide⟩
theorem d_X8_isDigit_16 : kf_dq cX8_isDigit 16 17 1 (.iconst 0) := ⟨by decide +kernel, rfl⟩
theorem d_X8_isDigit_17 : kf_dq cX8_isDigit 17 18 1 (.ireturn) := ⟨by decide +kernel, rfl⟩
def f_X8_isDigit (v0 : Int32) (σ : kf_St) : Option (Int32 × kf_St) :=
  if v0 < 48 then
    some (0, σ)
  else
    if 57 < v0 then
      some (0, σ)
    else
      some (1, σ)
set_option maxRecDepth 100000 in
set_option maxHeartbeats 4000000 in
theorem c_X8_isDigit {G : kf_G} (hty : kf_wt G) (v0 : Int32) (σ : kf_St) {q : (Int32 × kf_St)} (h : f_X8_isDigit v0 σ = some q) : kf_Ct (1) yX8_isDigit cX8_isDigit 1 (some .boolean) G [.int v0] σ (some (.int q.1)) q.2 := by
  refine kf_Ct.of hty.1 (lv := [(0, .int v0)]) (by decide +kernel) rfl (Nat.le_of_ble_eq_true rfl) (fun X E => ?_)
  unfold f_X8_isDigit at h
  refine wa_iload_n 0 rfl E d_X8_isDigit_0 ?_
  refine wa_bipush 48 bp_48 E d_X8_isDigit_1 ?_
  refine wa_icmp_lt E d_X8_isDigit_3 (fun c_1 => ?_) (fun c_1 => ?_)
  · replace h := kf_ift c_1 h
    refine wa_iconst 0 ic_0 E d_X8_isDigit_16 ?_
    cases h
    exact wa_zret kf_z0 E d_X8_isDigit_17
  · replace h := kf_iff c_1 h
    refine wa_iload_n 0 rfl E d_X8_isDigit_6 ?_
    refine wa_bipush 57 bp_57 E d_X8_isDigit_7 ?_
    refine wa_icmp_gt E d_X8_isDigit_9 (fun c_2 => ?_) (fun c_2 => ?_)
    · replace h := kf_ift c_2 h
      refine wa_iconst 0 ic_0 E d_X8_isDigit_16 ?_
      cases h
      exact wa_zret kf_z0 E d_X8_isDigit_17
    · replace h := kf_iff c_2 h
      refine wa_iconst 1 ic_1 E d_X8_isDigit_12 ?_
      refine wa_goto E d_X8_isDigit_13 ?_
      cases h
      exact wa_zret kf_z1 E d_X8_isDigit_17
/-! X8_cutNumber -/
theorem d_X8_cutNumber_0 : kf_dq cX8_cutNumber 0 1 1 (.aload_n 0) := ⟨by decide +kernel, rfl⟩
theorem d_X8_cutNumber_1 : kf_dq cX8_cutNumber 1 4 3 (.getfield 54) := ⟨by decide +kernel, rfl⟩
theorem d_X8_cutNumber_4 : kf_dq cX8_cutNumber 4 5 1 (.istore_n 1) := ⟨by decide +kernel, rfl⟩
theorem d_X8_cutNumber_5 : kf_dq cX8_cutNumber 5 6 1 (.aload_n 0) := ⟨by decide +kernel, rfl⟩
theorem d_X8_cutNumber_6 : kf_dq cX8_cutNumber 6 9 3 (.getfield 54) := ⟨by decide +kernel, rfl⟩
theorem d_X8_cutNumber_9 : kf_dq cX8_cutNumber 9 10 1 (.aload_n 0) := ⟨by decide +kernel, rfl⟩
theorem d_X8_cutNumber_10 : kf_dq cX8_cutNumber 10 13 3 (.getfield 51) := ⟨by decide +kernel, rfl⟩
theorem d_X8_cutNumber_13 : kf_dj cX8_cutNumber 13 16 68 (.if_icmp .ge) := ⟨55, by decide +kernel, rfl, by decide⟩
theorem d_X8_cutNumber_16 : kf_dq cX8_cutNumber 16 17 1 (.aload_n 0) := ⟨by decide +kernel, rfl⟩
theorem d_X8_cutNumber_17 : kf_dq cX8_cutNumber 17 18 1 (.aload_n 0) := ⟨by decide +kernel, rfl⟩
theorem d_X8_cutNumber_18 : kf_dq cX8_cutNumber 18 21 3 (.getfield 54) := ⟨by decide +kernel, rfl⟩
theorem d_X8_cutNumber_21 : kf_dq cX8_cutNumber 21 24 3 (.invokevirtual 70) := ⟨by decide +kernel, rfl⟩
theorem d_X8_cutNumber_24 : kf_dq cX8_cutNumber 24 27 3 (.invokestatic 84) := ⟨by decide +kernel, rfl⟩
theorem d_X8_cutNumber_27 : kf_dj cX8_cutNumber 27 30 68 (.ifCond .eq) := ⟨41, by decide +kernel, rfl, by decide⟩
theorem d_X8_cutNumber_30 : kf_dq cX8_cutNumber 30 31 1 (.aload_n 0) := ⟨by decide +kernel, rfl⟩
theorem d_X8_cutNumber_31 : kf_dq cX8_cutNumber 31 34 3 (.ldc2_w 95) := ⟨by decide +kernel, rfl⟩
theorem d_X8_cutNumber_34 : kf_dq cX8_cutNumber 34 35 1 (.aload_n 0) := ⟨by decide +kernel, rfl⟩
theorem d_X8_cutNumber_35 : kf_dq cX8_cutNumber 35 38 3 (.getfield 66) := ⟨by decide +kernel, rfl⟩
theorem d_X8_cutNumber_38 : kf_dq cX8_cutNumber 38 39 1 (.lmul) := ⟨by decide +kernel, rfl⟩
theorem d_X8_cutNumber_39 : kf_dq cX8_cutNumber 39 40 1 (.aload_n 0) := ⟨by decide +kernel, rfl⟩
theorem d_X8_cutNumber_40 : kf_dq cX8_cutNumber 40 41 1 (.aload_n 0) := ⟨by decide +kernel, rfl⟩
theorem d_X8_cutNumber_41 : kf_dq cX8_cutNumber 41 44 3 (.getfield 54) := ⟨by decide +kernel, rfl⟩
theorem d_X8_cutNumber_44 : kf_dq cX8_cutNumber 44 47 3 (.invokevirtual 70) := ⟨by decide +kernel, rfl⟩
theorem d_X8_cutNumber_47 : kf_dq cX8_cutNumber 47 49 2 (.bipush 48) := ⟨by decide +kernel, rfl⟩
theorem d_X8_cutNumber_49 : kf_dq cX8_cutNumber 49 50 1 (.isub) := ⟨by decide +kernel, rfl⟩
theorem d_X8_cutNumber_50 : kf_dq cX8_cutNumber 50 51 1 (.i2l) := ⟨by decide +kernel, rfl⟩
theorem d_X8_cutNumber_51 : kf_dq cX8_cutNumber 51 52 1 (.ladd) := ⟨by decide +kernel, rfl⟩
theorem d_X8_cutNumber_52 : kf_dq cX8_cutNumber 52 55 3 (.putfield 66) := ⟨by decide +kernel, rfl⟩
theorem d_X8_cutNumber_55 : kf_dq cX8_cutNumber 55 56 1 (.aload_n 0) := ⟨by decide +kernel, rfl⟩
theorem d_X8_cutNumber_56 : kf_dq cX8_cutNumber 56 57 1 (.dup) := ⟨by decide +kernel, rfl⟩
theorem d_X8_cutNumber_57 : kf_dq cX8_cutNumber 57 60 3 (.getfield 54) := ⟨by decide +kernel, rfl⟩
theorem d_X8_cutNumber_60 : kf_dq cX8_cutNumber 60 61 1 (.iconst 1) := ⟨by decide +kernel, rfl⟩
theorem d_X8_cutNumber_61 : kf_dq cX8_cutNumber 61 62 1 (.iadd) := ⟨by decide +kernel, rfl⟩
theorem d_X8_cutNumber_62 : kf_dq cX8_cutNumber 62 65 3 (.putfield 54) := ⟨by decide +kernel, rfl⟩
theorem d_X8_cutNumber_65 : kf_dj cX8_cutNumber 65 68 5 .goto := ⟨(-60), by decide +kernel, rfl, by decide⟩
theorem d_X8_cutNumber_68 : kf_dq cX8_cutNumber 68 69 1 (.aload_n 0) := ⟨by decide +kernel, rfl⟩
theorem d_X8_cutNumber_69 : kf_dq cX8_cutNumber 69 70 1 (.aload_n 0) := ⟨by decide +kernel, rfl⟩
theorem d_X8_cutNumber_70 : kf_dq cX8_cutNumber 70 73 3 (.getfield 54) := ⟨by decide +kernel, rfl⟩
theorem d_X8_cutNumber_73 : kf_dq cX8_cutNumber 73 74 1 (.iload_n 1) := ⟨by decide +kernel, rfl⟩
theorem d_X8_cutNumber_74 : kf_dq cX8_cutNumber 74 75 1 (.isub) := ⟨by decide +kernel, rfl⟩
theorem d_X8_cutNumber_75 : kf_dq cX8_cutNumber 75 76 1 (.iconst 4) := ⟨by decide +kernel, rfl⟩
theorem d_X8_cutNumber_76 : kf_dj cX8_cutNumber 76 79 83 (.if_icmp .le) := ⟨7, by decide +kernel, rfl, by decide⟩
theorem d_X8_cutNumber_79 : kf_dq cX8_cutNumber 79 80 1 (.iconst 1) := ⟨by decide +kernel, rfl⟩
theorem d_X8_cutNumber_80 : kf_dj cX8_cutNumber 80 83 84 .goto := ⟨4, by decide +kernel, rfl, by decide⟩
theorem d_X8_cutNumber_83 : kf_dq cX8_cutNumber 83 84 1 (.iconst 3) := ⟨by decide +kernel, rfl⟩
theorem d_X8_cutNumber_84 : kf_dq cX8_cutNumber 84 87 3 (.putfield 57) := ⟨by decide +kernel, rfl⟩
theorem d_X8_cutNumber_87 : kf_dq cX8_cutNumber 87 88 1 (.return_) := ⟨by decide +kernel, rfl⟩
def f_X8_cutNumber_84 (s0 : Nat) (s1 : Int32) (σ : kf_St) : Option kf_St :=
  kf_lt (kf_wi σ s0 7 s1) fun σ_1 =>
  some σ_1
set_option maxRecDepth 100000 in
set_option maxHeartbeats 4000000 in
theorem b_X8_cutNumber_84 {X : kf_X} {G : kf_G} {q : kf_St} (E : kf_ok X G cX8_cutNumber RX8 2 none (2)) (hty : kf_wt G) (s0 : Nat) (s1 : Int32) (k_s0 : kf_kd G s0 = 9) (σ : kf_St) (h : f_X8_cutNumber_84 s0 s1 σ = some q) : kf_WA X G 2 (kf_Q X G none q) 84 [] [.int s1, .ref (kf_ad G s0)] σ := by
  unfold f_X8_cutNumber_84 at h
  obtain ⟨σ_1, eσ_1, h⟩ := kf_lte h
  refine wa_putI fl_X8_57 fp_8_7 k_s0 rfl (by decide) rfl rfl E d_X8_cutNumber_84 eσ_1 ?_
  cases h
  exact wa_vret E d_X8_cutNumber_87
def f_X8_cutNumber_68 (v0 : Nat) (v1 : Int32) (σ : kf_St) : Option kf_St :=
  if ((σ.1 v0 6) - v1) ≤ 4 then
    f_X8_cutNumber_84 v0 3 σ
  else
    f_X8_cutNumber_84 v0 1 σ
set_option maxRecDepth 100000 in
set_option maxHeartbeats 4000000 in
theorem b_X8_cutNumber_68 {X : kf_X} {G : kf_G} {q : kf_St} (E : kf_ok X G cX8_cutNumber RX8 2 none (2)) (hty : kf_wt G) (v0 : Nat) (v1 : Int32) (k_v0 : kf_kd G v0 = 9) (σ : kf_St) (h : f_X8_cutNumber_68 v0 v1 σ = some q) : kf_WA X G 2 (kf_Q X G none q) 68 [(0, .ref (kf_ad G v0)), (1, .int v1)] [] σ := by
  unfold f_X8_cutNumber_68 at h
  refine wa_aload_n 0 rfl E d_X8_cutNumber_68 ?_
  refine wa_aload_n 0 rfl E d_X8_cutNumber_69 ?_
  refine wa_getI fl_X8_54 k_v0 rfl E d_X8_cutNumber_70 ?_
  refine wa_iload_n 1 rfl E d_X8_cutNumber_73 ?_
  refine wa_isub E d_X8_cutNumber_74 ?_
  refine wa_iconst 4 ic_4 E d_X8_cutNumber_75 ?_
  refine wa_icmp_le E d_X8_cutNumber_76 (fun c_1 => ?_) (fun c_1 => ?_)
  · replace h := kf_ift c_1 h
    refine wa_iconst 3 ic_3 E d_X8_cutNumber_83 ?_
    refine wa_sub [] rfl ?_
    exact b_X8_cutNumber_84 E hty v0 3 k_v0 σ h
  · replace h := kf_iff c_1 h
    refine wa_iconst 1 ic_1 E d_X8_cutNumber_79 ?_
    refine wa_goto E d_X8_cutNumber_80 ?_
    refine wa_sub [] rfl ?_
    exact b_X8_cutNumber_84 E hty v0 1 k_v0 σ h
def f_X8_cutNumber_5_s (rec5 : Nat → Int32 → kf_St → Option kf_St) (v0 : Nat) (v1 : Int32) (σ : kf_St) : Option kf_St :=
  if (σ.1 v0 0) ≤ (σ.1 v0 6) then
    f_X8_cutNumber_68 v0 v1 σ
  else
    (f_X8_byteAt v0 (σ.1 v0 6) σ).bind fun q_2 =>
    (f_X8_isDigit q_2.1 q_2.2).bind fun q_3 =>
    if q_3.1 = 0 then
      f_X8_cutNumber_68 v0 v1 q_3.2
    else
      (f_X8_byteAt v0 (q_3.2.1 v0 6) q_3.2).bind fun q_5 =>
      kf_lt (kf_wl q_5.2 v0 8 (((10 : Int64) * (q_3.2.2 v0 8)) + (Int32.toInt64 (q_5.1 - 48)))) fun σ_6 =>
      kf_lt (kf_wi σ_6 v0 6 ((σ_6.1 v0 6) + 1)) fun σ_7 =>
      rec5 v0 v1 σ_7
def f_X8_cutNumber_5 : Nat → Nat → Int32 → kf_St → Option kf_St
  | 0, _, _, _ => none
  | n + 1, v0, v1, σ => f_X8_cutNumber_5_s (f_X8_cutNumber_5 n) v0 v1 σ
set_option maxRecDepth 100000 in
set_option maxHeartbeats 4000000 in
theorem b_X8_cutNumber_5_s {X : kf_X} {G : kf_G} (rec5 : Nat → Int32 → kf_St → Option kf_St) {q : kf_St} (E : kf_ok X G cX8_cutNumber RX8 2 none (2)) (hty : kf_wt G) (hrec5 : ∀ (v0 : Nat) (v1 : Int32) (k_v0 : kf_kd G v0 = 9) (σ : kf_St), rec5 v0 v1 σ = some q → kf_WA X G 2 (kf_Q X G none q) 5 [(0, .ref (kf_ad G v0)), (1, .int v1)] [] σ) (v0 : Nat) (v1 : Int32) (k_v0 : kf_kd G v0 = 9) (σ : kf_St) (h : f_X8_cutNumber_5_s rec5 v0 v1 σ = some q) : kf_WA X G 2 (kf_Q X G none q) 5 [(0, .ref (kf_ad G v0)), (1, .int v1)] [] σ := by
  unfold f_X8_cutNumber_5_s at h
  refine wa_aload_n 0 rfl E d_X8_cutNumber_5 ?_
  refine wa_getI fl_X8_54 k_v0 rfl E d_X8_cutNumber_6 ?_
  refine wa_aload_n 0 rfl E d_X8_cutNumber_9 ?_
  refine wa_getI fl_X8_51 k_v0 rfl E d_X8_cutNumber_10 ?_
  refine wa_icmp_ge E d_X8_cutNumber_13 (fun c_1 => ?_) (fun c_1 => ?_)
  · replace h := kf_ift c_1 h
    exact b_X8_cutNumber_68 E hty v0 v1 k_v0 σ h
  · replace h := kf_iff c_1 h
    refine wa_aload_n 0 rfl E d_X8_cutNumber_16 ?_
    refine wa_aload_n 0 rfl E d_X8_cutNumber_17 ?_
    refine wa_getI fl_X8_54 k_v0 rfl E d_X8_cutNumber_18 ?_
    obtain ⟨q_2, hq_2, h⟩ := kf_bd h
    refine wa_callV (st2 := [.int q_2.1]) (c_X8_byteAt hty v0 (σ.1 v0 6) k_v0 σ hq_2) mv_X8_byteAt ml_X8_70 k_v0 rfl (Nat.le_of_ble_eq_true rfl) rfl (Nat.le_of_ble_eq_true rfl) E d_X8_cutNumber_21 rfl ?_
    obtain ⟨q_3, hq_3, h⟩ := kf_bd h
    refine wa_callS (st2 := [.int q_3.1]) (c_X8_isDigit hty q_2.1 q_2.2 hq_3) mt_X8_isDigit ml_X8_84 rfl (Nat.le_of_ble_eq_true rfl) rfl (Nat.le_of_ble_eq_true rfl) E d_X8_cutNumber_24 rfl ?_
    refine wa_if_eq E d_X8_cutNumber_27 (fun c_4 => ?_) (fun c_4 => ?_)
    · replace h := kf_ift c_4 h
      exact b_X8_cutNumber_68 E hty v0 v1 k_v0 q_3.2 h
    · replace h := kf_iff c_4 h
      refine wa_aload_n 0 rfl E d_X8_cutNumber_30 ?_
      refine wa_ldc2 cstl_X8_95 E d_X8_cutNumber_31 ?_
      refine wa_aload_n 0 rfl E d_X8_cutNumber_34 ?_
      refine wa_getJ fl_X8_66 k_v0 rfl E d_X8_cutNumber_35 ?_
      refine wa_lmul E d_X8_cutNumber_38 ?_
      refine wa_aload_n 0 rfl E d_X8_cutNumber_39 ?_
      refine wa_aload_n 0 rfl E d_X8_cutNumber_40 ?_
      refine wa_getI fl_X8_54 k_v0 rfl E d_X8_cutNumber_41 ?_
      obtain ⟨q_5, hq_5, h⟩ := kf_bd h
      refine wa_callV (st2 := [.int q_5.1, .long ((10 : Int64) * (q_3.2.2 v0 8)), .ref (kf_ad G v0)]) (c_X8_byteAt hty v0 (q_3.2.1 v0 6) k_v0 q_3.2 hq_5) mv_X8_byteAt ml_X8_70 k_v0 rfl (Nat.le_of_ble_eq_true rfl) rfl (Nat.le_of_ble_eq_true rfl) E d_X8_cutNumber_44 rfl ?_
      refine wa_bipush 48 bp_48 E d_X8_cutNumber_47 ?_
      refine wa_isub E d_X8_cutNumber_49 ?_
      refine wa_i2l E d_X8_cutNumber_50 ?_
      refine wa_ladd E d_X8_cutNumber_51 ?_
      obtain ⟨σ_6, eσ_6, h⟩ := kf_lte h
      refine wa_putJ fl_X8_66 fp_8_8 k_v0 rfl E d_X8_cutNumber_52 eσ_6 ?_
      refine wa_aload_n 0 rfl E d_X8_cutNumber_55 ?_
      refine wa_dup rfl E d_X8_cutNumber_56 ?_
      refine wa_getI fl_X8_54 k_v0 rfl E d_X8_cutNumber_57 ?_
      refine wa_iconst 1 ic_1 E d_X8_cutNumber_60 ?_
      refine wa_iadd E d_X8_cutNumber_61 ?_
      obtain ⟨σ_7, eσ_7, h⟩ := kf_lte h
      refine wa_putI fl_X8_54 fp_8_6 k_v0 rfl (by decide) rfl rfl E d_X8_cutNumber_62 eσ_7 ?_
      refine wa_goto E d_X8_cutNumber_65 ?_
      exact hrec5 v0 v1 k_v0 σ_7 h
theorem b_X8_cutNumber_5 {X : kf_X} {G : kf_G} {q : kf_St} (E : kf_ok X G cX8_cutNumber RX8 2 none (2)) (hty : kf_wt G) : ∀ (N : Nat) (v0 : Nat) (v1 : Int32) (k_v0 : kf_kd G v0 = 9) (σ : kf_St) (_ : f_X8_cutNumber_5 N v0 v1 σ = some q), kf_WA X G 2 (kf_Q X G none q) 5 [(0, .ref (kf_ad G v0)), (1, .int v1)] [] σ
  | 0, _, _, _, _, h => by cases h
  | N + 1, v0, v1, k_v0, σ, h => b_X8_cutNumber_5_s _ E hty (b_X8_cutNumber_5 E hty N) v0 v1 k_v0 σ h
def f_X8_cutNumber (v0 : Nat) (σ : kf_St) : Option kf_St :=
  kf_lt ((σ.1 v0 6)) fun v1_1 =>
  f_X8_cutNumber_5 kf_F v0 v1_1 σ
set_option maxRecDepth 100000 in
set_option maxHeartbeats 4000000 in
theorem c_X8_cutNumber {G : kf_G} (hty : kf_wt G) (v0 : Nat) (k_v0 : kf_kd G v0 = 9) (σ : kf_St) {q : kf_St} (h : f_X8_cutNumber v0 σ = some q) : kf_Ct (2) yX8_cutNumber cX8_cutNumber 2 none G [.ref (kf_ad G v0)] σ none q := by
  refine kf_Ct.of hty.1 (lv := [(0, .ref (kf_ad G v0))]) (by decide +kernel) rfl (Nat.le_of_ble_eq_true rfl) (fun X E => ?_)
  unfold f_X8_cutNumber at h
  refine wa_aload_n 0 rfl E d_X8_cutNumber_0 ?_
  refine wa_getI fl_X8_54 k_v0 rfl E d_X8_cutNumber_1 ?_
  obtain ⟨v1_1, ev1_1, h⟩ := kf_lte h
  refine wa_topi ev1_1 ?_
  refine wa_istore_n (lv' := [(1, .int v1_1), (0, .ref (kf_ad G v0))]) rfl (by decide) rfl E d_X8_cutNumber_4 ?_
  refine wa_sub [1, 0] rfl ?_
  exact b_X8_cutNumber_5 E hty kf_F v0 v1_1 k_v0 σ h
/-! J0_isLatin1_aae02 -/
theorem d_J0_isLatin1_aae02_0 : kf_dq cJ0_isLatin1_aae02 0 3 3 (.getstatic 38) := ⟨by decide +kernel, rfl⟩
theorem d_J0_isLatin1_aae02_3 : kf_dj cJ0_isLatin1_aae02 3 6 17 (.ifCond .eq) := ⟨14, by decide +kernel, rfl, by decide⟩
theorem d_J0_isLatin1_aae02_6 : kf_dq cJ0_isLatin1_aae02 6 7 1 (.aload_n 0) := ⟨by decide +kernel, rfl⟩
theorem d_J0_isLatin1_aae02_7 : kf_dq cJ0_isLatin1_aae02 7 10 3 (.getfield 15) := ⟨by decide +kernel, rfl⟩
theorem d_J0_isLatin1_aae02_10 : kf_dj cJ0_isLatin1_aae02 10 13 17 (.ifCond .ne) := ⟨7, by decide +kernel, rfl, by decide⟩
theorem d_J0_isLatin1_aae02_13 : kf_dq cJ0_isLatin1_aae02 13 14 1 (.iconst 1) := ⟨by decide +kernel, rfl⟩
theorem d_J0_isLatin1_aae02_14 : kf_dj cJ0_isLatin1_aae02 14 17 18 .goto := ⟨4, by decide +kernel, rfl, by decide⟩
theorem d_J0_isLatin1_aae02_18 : kf_dq cJ0_isLatin1_aae02 18 19 1 (.ireturn) := ⟨by decide +kernel, rfl⟩
def f_J0_isLatin1_aae02 (v0 : Nat) (σ : kf_St) : Option (Int32 × kf_St) :=
      some (1, σ)
set_option maxRecDepth 100000 in
set_option maxHeartbeats 4000000 in
theorem c_J0_isLatin1_aae02 {G : kf_G} (hty : kf_wt G) (v0 : Nat) (k_v0 : v0 < 2) (σ : kf_St) {q : (Int32 × kf_St)} (h : f_J0_isLatin1_aae02 v0 σ = some q) : kf_Ct (1) yJ0_isLatin1_aae02 cJ0_isLatin1_aae02 1 (some .boolean) G [.ref (kf_tk G v0)] σ (some (.int q.1)) q.2 := by
  refine kf_Ct.of hty.1 (lv := [(0, .ref (kf_tk G v0))]) (by decide +kernel) rfl (Nat.le_of_ble_eq_true rfl) (fun X E => ?_)
  unfold f_J0_isLatin1_aae02 at h
  refine wa_gcmp sfl_J0_38 E d_J0_isLatin1_aae02_0 ?_
  refine wa_if_eq E d_J0_isLatin1_aae02_3 (fun c_1 => ?_) (fun c_1 => ?_)
  · exact absurd c_1 (by decide)
  · clear c_1
    refine wa_aload_n 0 rfl E d_J0_isLatin1_aae02_6 ?_
    refine wa_gcod k_v0 sfl_J0_15 E d_J0_isLatin1_aae02_7 ?_
    refine wa_if_ne E d_J0_isLatin1_aae02_10 (fun c_2 => ?_) (fun c_2 => ?_)
    · exact absurd c_2 (by decide)
    · clear c_2
      refine wa_iconst 1 ic_1 E d_J0_isLatin1_aae02_13 ?_
      refine wa_goto E d_J0_isLatin1_aae02_14 ?_
      cases h
      exact wa_zret kf_z1 E d_J0_isLatin1_aae02_18
/-! J0_coder_7d493 -/
theorem d_J0_coder_7d493_0 : kf_dq cJ0_coder_7d493 0 3 3 (.getstatic 38) := ⟨by decide +kernel, rfl⟩
theorem d_J0_coder_7d493_3 : kf_dj cJ0_coder_7d493 3 6 13 (.ifCond .eq) := ⟨10, by decide +kernel, rfl, by decide⟩
theorem d_J0_coder_7d493_6 : kf_dq cJ0_coder_7d493 6 7 1 (.aload_n 0) := ⟨by decide +kernel, rfl⟩
theorem d_J0_coder_7d493_7 : kf_dq cJ0_coder_7d493 7 10 3 (.getfield 15) := ⟨by decide +kernel, rfl⟩
theorem d_J0_coder_7d493_10 : kf_dj cJ0_coder_7d493 10 13 14 .goto := ⟨4, by decide +kernel, rfl, by decide⟩
theorem d_J0_coder_7d493_14 : kf_dq cJ0_coder_7d493 14 15 1 (.ireturn) := ⟨by decide +kernel, rfl⟩
def f_J0_coder_7d493 (v0 : Nat) (σ : kf_St) : Option (Int32 × kf_St) :=
    some (0, σ)
set_option maxRecDepth 100000 in
set_option maxHeartbeats 4000000 in
theorem c_J0_coder_7d493 {G : kf_G} (hty : kf_wt G) (v0 : Nat) (k_v0 : v0 < 2) (σ : kf_St) {q : (Int32 × kf_St)} (h : f_J0_coder_7d493 v0 σ = some q) : kf_Ct (1) yJ0_coder_7d493 cJ0_coder_7d493 1 (some .byte) G [.ref (kf_tk G v0)] σ (some (.int q.1)) q.2 := by
  refine kf_Ct.of hty.1 (lv := [(0, .ref (kf_tk G v0))]) (by decide +kernel) rfl (Nat.le_of_ble_eq_true rfl) (fun X E => ?_)
  unfold f_J0_coder_7d493 at h
  refine wa_gcmp sfl_J0_38 E d_J0_coder_7d493_0 ?_
  refine wa_if_eq E d_J0_coder_7d493_3 (fun c_1 => ?_) (fun c_1 => ?_)
  · exact absurd c_1 (by decide)
  · clear c_1
    refine wa_aload_n 0 rfl E d_J0_coder_7d493_6 ?_
    refine wa_gcod k_v0 sfl_J0_15 E d_J0_coder_7d493_7 ?_
    refine wa_goto E d_J0_coder_7d493_10 ?_
    cases h
    exact wa_zret kf_b0 E d_J0_coder_7d493_14
/-! J0_length_8abf5 -/
theorem d_J0_length_8abf5_0 : kf_dq cJ0_length_8abf5 0 1 1 (.aload_n 0) := ⟨by decide +kernel, rfl⟩
theorem d_J0_length_8abf5_1 : kf_dq cJ0_length_8abf5 1 4 3 (.getfield 9) := ⟨by decide +kernel, rfl⟩
theorem d_J0_length_8abf5_4 : kf_dq cJ0_length_8abf5 4 5 1 (.arraylength) := ⟨by decide +kernel, rfl⟩
theorem d_J0_length_8abf5_5 : kf_dq cJ0_length_8abf5 5 6 1 (.aload_n 0) := ⟨by decide +kernel, rfl⟩
theorem d_J0_length_8abf5_6 : kf_dq cJ0_length_8abf5 6 9 3 (.invokevirtual 335) := ⟨by decide +kernel, rfl⟩
theorem d_J0_length_8abf5_9 : kf_dq cJ0_length_8abf5 9 10 1 (.ishr) := ⟨by decide +kernel, rfl⟩
theorem d_J0_length_8abf5_10 : kf_dq cJ0_length_8abf5 10 11 1 (.ireturn) := ⟨by decide +kernel, rfl⟩
def f_J0_length_8abf5 (v0 : Nat) (σ : kf_St) : Option (Int32 × kf_St) :=
  some (((nI (kf_len.getD v0 0)) >>> (0 &&& 31)), σ)
set_option maxRecDepth 100000 in
set_option maxHeartbeats 4000000 in
theorem c_J0_length_8abf5 {G : kf_G} (hty : kf_wt G) (v0 : Nat) (k_v0 : v0 < 2) (σ : kf_St) {q : (Int32 × kf_St)} (h : f_J0_length_8abf5 v0 σ = some q) : kf_Ct (2) yJ0_length_8abf5 cJ0_length_8abf5 1 (some .int) G [.ref (kf_tk G v0)] σ (some (.int q.1)) q.2 := by
  refine kf_Ct.of hty.1 (lv := [(0, .ref (kf_tk G v0))]) (by decide +kernel) rfl (Nat.le_of_ble_eq_true rfl) (fun X E => ?_)
  unfold f_J0_length_8abf5 at h
  refine wa_aload_n 0 rfl E d_J0_length_8abf5_0 ?_
  refine wa_gval k_v0 sfl_J0_9 E d_J0_length_8abf5_1 ?_
  refine wa_tlen k_v0 E d_J0_length_8abf5_4 ?_
  refine wa_aload_n 0 rfl E d_J0_length_8abf5_5 ?_
  refine wa_callT (st2 := [.int 0, .int (nI (kf_len.getD v0 0))]) (σ' := σ) (o := some (.int 0)) (c_J0_coder_7d493 hty v0 k_v0 σ (q := (0, σ)) rfl) mj_J0_coder_7d493 ml_J0_335 k_v0 rfl (Nat.le_of_ble_eq_true rfl) rfl (Nat.le_of_ble_eq_true rfl) E d_J0_length_8abf5_6 rfl ?_
  refine wa_ishr E d_J0_length_8abf5_9 ?_
  cases h
  exact wa_iret E d_J0_length_8abf5_10
/-! J1_canEncode_9a6ad -/
theorem d_J1_canEncode_9a6ad_0 : kf_dq cJ1_canEncode_9a6ad 0 1 1 (.iload_n 0) := ⟨by decide +kernel, rfl⟩
theorem d_J1_canEncode_9a6ad_1 : kf_dj cJ1_canEncode_9a6ad 1 4 15 (.ifCond .lt) := ⟨14, by decide +kernel, rfl, by decide⟩
theorem d_J1_canEncode_9a6ad_4 : kf_dq cJ1_canEncode_9a6ad 4 5 1 (.iload_n 0) := ⟨by decide +kernel, rfl⟩
theorem d_J1_canEncode_9a6ad_5 : kf_dq cJ1_canEncode_9a6ad 5 8 3 (.sipush 255) := ⟨by decide +kernel, rfl⟩
theorem d_J1_canEncode_9a6ad_8 : kf_dj cJ1_canEncode_9a6ad 8 11 15 (.if_icmp .gt) := ⟨7, by decide +kernel, rfl, by decide⟩
theorem d_J1_canEncode_9a6ad_11 : kf_dq cJ1_canEncode_9a6ad 11 12 1 (.iconst 1) := ⟨by decide +kernel, rfl⟩
theorem d_J1_canEncode_9a6ad_12 : kf_dj cJ1_canEncode_9a6ad 12 15 16 .goto := ⟨4, by decide +kernel, rfl, by decide⟩
theorem d_J1_canEncode_9a6ad_15 : kf_dq cJ1_canEncode_9a6ad 15 16 1 (.iconst 0) := ⟨by decide +kernel, rfl⟩
theorem d_J1_canEncode_9a6ad_16 : kf_dq cJ1_canEncode_9a6ad 16 17 1 (.ireturn) := ⟨by decide +kernel, rfl⟩
def f_J1_canEncode_9a6ad (v0 : Int32) (σ : kf_St) : Option (Int32 × kf_St) :=
  if v0 < 0 then
    some (0, σ)
  else
    if 255 < v0 then
      some (0, σ)
    else
      some (1, σ)
set_option maxRecDepth 100000 in
set_option maxHeartbeats 4000000 in
theorem c_J1_canEncode_9a6ad {G : kf_G} (hty : kf_wt G) (v0 : Int32) (σ : kf_St) {q : (Int32 × kf_St)} (h : f_J1_canEncode_9a6ad v0 σ = some q) : kf_Ct (1) yJ1_canEncode_9a6ad cJ1_canEncode_9a6ad 1 (some .boolean) G [.int v0] σ (some (.int q.1)) q.2 := by
  refine kf_Ct.of hty.1 (lv := [(0, .int v0)]) (by decide +kernel) rfl (Nat.le_of_ble_eq_true rfl) (fun X E => ?_)
  unfold f_J1_canEncode_9a6ad at h
  refine wa_iload_n 0 rfl E d_J1_canEncode_9a6ad_0 ?_
  refine wa_if_lt E d_J1_canEncode_9a6ad_1 (fun c_1 => ?_) (fun c_1 => ?_)
  · replace h := kf_ift c_1 h
    refine wa_iconst 0 ic_0 E d_J1_canEncode_9a6ad_15 ?_
    cases h
    exact wa_zret kf_z0 E d_J1_canEncode_9a6ad_16
  · replace h := kf_iff c_1 h
    refine wa_iload_n 0 rfl E d_J1_canEncode_9a6ad_4 ?_
    refine wa_sipush 255 sp_255 E d_J1_canEncode_9a6ad_5 ?_
    refine wa_icmp_gt E d_J1_canEncode_9a6ad_8 (fun c_2 => ?_) (fun c_2 => ?_)
    · replace h := kf_ift c_2 h
      refine wa_iconst 0 ic_0 E d_J1_canEncode_9a6ad_15 ?_
      cases h
      exact wa_zret kf_z0 E d_J1_canEncode_9a6ad_16
    · replace h := kf_iff c_2 h
      refine wa_iconst 1 ic_1 E d_J1_canEncode_9a6ad_11 ?_
      refine wa_goto E d_J1_canEncode_9a6ad_12 ?_
      cases h
      exact wa_zret kf_z1 E d_J1_canEncode_9a6ad_16
/-! J1_indexOfChar_4cfef -/
theorem d_J1_indexOfChar_4cfef_0 : kf_dq cJ1_indexOfChar_4cfef 0 1 1 (.iload_n 1) := ⟨by decide +kernel, rfl⟩
theorem d_J1_indexOfChar_4cfef_1 : kf_dq cJ1_indexOfChar_4cfef 1 2 1 (.i2b) := ⟨by decide +kernel, rfl⟩
theorem d_J1_indexOfChar_4cfef_2 : kf_dq cJ1_indexOfChar_4cfef 2 4 2 (.istore 4) := ⟨by decide +kernel, rfl⟩
theorem d_J1_indexOfChar_4cfef_4 : kf_dq cJ1_indexOfChar_4cfef 4 5 1 (.iload_n 2) := ⟨by decide +kernel, rfl⟩
theorem d_J1_indexOfChar_4cfef_5 : kf_dq cJ1_indexOfChar_4cfef 5 7 2 (.istore 5) := ⟨by decide +kernel, rfl⟩
theorem d_J1_indexOfChar_4cfef_7 : kf_dq cJ1_indexOfChar_4cfef 7 9 2 (.iload 5) := ⟨by decide +kernel, rfl⟩
theorem d_J1_indexOfChar_4cfef_9 : kf_dq cJ1_indexOfChar_4cfef 9 10 1 (.iload_n 3) := ⟨by decide +kernel, rfl⟩
theorem d_J1_indexOfChar_4cfef_10 : kf_dj cJ1_indexOfChar_4cfef 10 13 31 (.if_icmp .ge) := ⟨21, by decide +kernel, rfl, by decide⟩
theorem d_J1_indexOfChar_4cfef_13 : kf_dq cJ1_indexOfChar_4cfef 13 14 1 (.aload_n 0) := ⟨by decide +kernel, rfl⟩
theorem d_J1_indexOfChar_4cfef_14 : kf_dq cJ1_indexOfChar_4cfef 14 16 2 (.iload 5) := ⟨by decide +kernel, rfl⟩
theorem d_J1_indexOfChar_4cfef_16 : kf_dq cJ1_indexOfChar_4cfef 16 17 1 (.baload) := ⟨by decide +kernel, rfl⟩
theorem d_J1_indexOfChar_4cfef_17 : kf_dq cJ1_indexOfChar_4cfef 17 19 2 (.iload 4) := ⟨by decide +kernel, rfl⟩
theorem d_J1_indexOfChar_4cfef_19 : kf_dj cJ1_indexOfChar_4cfef 19 22 25 (.if_icmp .ne) := ⟨6, by decide +kernel, rfl, by decide⟩
theorem d_J1_indexOfChar_4cfef_22 : kf_dq cJ1_indexOfChar_4cfef 22 24 2 (.iload 5) := ⟨by decide +kernel, rfl⟩
theorem d_J1_indexOfChar_4cfef_24 : kf_dq cJ1_indexOfChar_4cfef 24 25 1 (.ireturn) := ⟨by decide +kernel, rfl⟩
theorem d_J1_indexOfChar_4cfef_25 : kf_dq cJ1_indexOfChar_4cfef 25 28 3 (.iinc 5 1) := ⟨by decide +kernel, rfl⟩
theorem d_J1_indexOfChar_4cfef_28 : kf_dj cJ1_indexOfChar_4cfef 28 31 7 .goto := ⟨(-21), by decide +kernel, rfl, by decide⟩
theorem d_J1_indexOfChar_4cfef_31 : kf_dq cJ1_indexOfChar_4cfef 31 32 1 (.iconst (-1)) := ⟨by decide +kernel, rfl⟩
theorem d_J1_indexOfChar_4cfef_32 : kf_dq cJ1_indexOfChar_4cfef 32 33 1 (.ireturn) := ⟨by decide +kernel, rfl⟩
def f_J1_indexOfChar_4cfef_7_s (rec7 : Nat → Int32 → Int32 → Int32 → kf_St → Option (Int32 × kf_St)) (v0 : Nat) (v3 : Int32) (v4 : Int32) (v5 : Int32) (σ : kf_St) : Option (Int32 × kf_St) :=
  if v3 ≤ v5 then
    some ((-1), σ)
  else
    if kf_ix v5 (kf_len.getD v0 0) = true then
    if ((kf_byt.getD v0 []).getD (Int32.toNatClampNeg v5) 0) = v4 then
      some (v5, σ)
    else
      kf_lt (v5 + 1) fun v5_4 =>
      rec7 v0 v3 v4 v5_4 σ
    else none
def f_J1_indexOfChar_4cfef_7 : Nat → Nat → Int32 → Int32 → Int32 → kf_St → Option (Int32 × kf_St)
  | 0, _, _, _, _, _ => none
  | n + 1, v0, v3, v4, v5, σ => f_J1_indexOfChar_4cfef_7_s (f_J1_indexOfChar_4cfef_7 n) v0 v3 v4 v5 σ
set_option maxRecDepth 100000 in
set_option maxHeartbeats 4000000 in
theorem b_J1_indexOfChar_4cfef_7_s {X : kf_X} {G : kf_G} (rec7 : Nat → Int32 → Int32 → Int32 → kf_St → Option (Int32 × kf_St)) {q : (Int32 × kf_St)} (E : kf_ok X G cJ1_indexOfChar_4cfef RJ1 6 (some .int) (1)) (hty : kf_wt G) (hrec7 : ∀ (v0 : Nat) (v3 : Int32) (v4 : Int32) (v5 : Int32) (k_v0 : v0 < 2) (σ : kf_St), rec7 v0 v3 v4 v5 σ = some q → kf_WA X G 6 (kf_Q X G (some (.int q.1)) q.2) 7 [(0, .ref (kf_tv G v0)), (3, .int v3), (4, .int v4), (5, .int v5)] [] σ) (v0 : Nat) (v3 : Int32) (v4 : Int32) (v5 : Int32) (k_v0 : v0 < 2) (σ : kf_St) (h : f_J1_indexOfChar_4cfef_7_s rec7 v0 v3 v4 v5 σ = some q) : kf_WA X G 6 (kf_Q X G (some (.int q.1)) q.2) 7 [(0, .ref (kf_tv G v0)), (3, .int v3), (4, .int v4), (5, .int v5)] [] σ := by
  unfold f_J1_indexOfChar_4cfef_7_s at h
  refine wa_iload 3 rfl E d_J1_indexOfChar_4cfef_7 ?_
  refine wa_iload_n 1 rfl E d_J1_indexOfChar_4cfef_9 ?_
  refine wa_icmp_ge E d_J1_indexOfChar_4cfef_10 (fun c_1 => ?_) (fun c_1 => ?_)
  · replace h := kf_ift c_1 h
    refine wa_iconst (-1) ic_m1 E d_J1_indexOfChar_4cfef_31 ?_
    cases h
    exact wa_iret E d_J1_indexOfChar_4cfef_32
  · replace h := kf_iff c_1 h
    refine wa_aload_n 0 rfl E d_J1_indexOfChar_4cfef_13 ?_
    refine wa_iload 3 rfl E d_J1_indexOfChar_4cfef_14 ?_
    obtain ⟨g_2, h⟩ := kf_gd h
    refine wa_tald k_v0 g_2 E d_J1_indexOfChar_4cfef_16 ?_
    refine wa_iload 2 rfl E d_J1_indexOfChar_4cfef_17 ?_
    refine wa_icmp_ne E d_J1_indexOfChar_4cfef_19 (fun c_3 => ?_) (fun c_3 => ?_)
    · replace h := kf_iff c_3 h
      obtain ⟨v5_4, ev5_4, h⟩ := kf_lte h
      refine wa_iinc (lv' := [(5, .int v5_4), (0, .ref (kf_tv G v0)), (3, .int v3), (4, .int v4)]) v5_4 3 rfl (kf_inc ic_1 ev5_4) (by decide) rfl E d_J1_indexOfChar_4cfef_25 ?_
      refine wa_goto E d_J1_indexOfChar_4cfef_28 ?_
      refine wa_sub [1, 2, 3, 0] rfl ?_
      exact hrec7 v0 v3 v4 v5_4 k_v0 σ h
    · replace h := kf_ift c_3 h
      refine wa_iload 3 rfl E d_J1_indexOfChar_4cfef_22 ?_
      cases h
      exact wa_iret E d_J1_indexOfChar_4cfef_24
theorem b_J1_indexOfChar_4cfef_7 {X : kf_X} {G : kf_G} {q : (Int32 × kf_St)} (E : kf_ok X G cJ1_indexOfChar_4cfef RJ1 6 (some .int) (1)) (hty : kf_wt G) : ∀ (N : Nat) (v0 : Nat) (v3 : Int32) (v4 : Int32) (v5 : Int32) (k_v0 : v0 < 2) (σ : kf_St) (_ : f_J1_indexOfChar_4cfef_7 N v0 v3 v4 v5 σ = some q), kf_WA X G 6 (kf_Q X G (some (.int q.1)) q.2) 7 [(0, .ref (kf_tv G v0)), (3, .int v3), (4, .int v4), (5, .int v5)] [] σ
  | 0, _, _, _, _, _, _, h => by cases h
  | N + 1, v0, v3, v4, v5, k_v0, σ, h => b_J1_indexOfChar_4cfef_7_s _ E hty (b_J1_indexOfChar_4cfef_7 E hty N) v0 v3 v4 v5 k_v0 σ h
def f_J1_indexOfChar_4cfef (v0 : Nat) (v1 : Int32) (v2 : Int32) (v3 : Int32) (σ : kf_St) : Option (Int32 × kf_St) :=
  kf_lt ((Int32.toInt8 v1).toInt32) fun v4_1 =>
  f_J1_indexOfChar_4cfef_7 kf_F v0 v3 v4_1 v2 σ
set_option maxRecDepth 100000 in
set_option maxHeartbeats 4000000 in
theorem c_J1_indexOfChar_4cfef {G : kf_G} (hty : kf_wt G) (v0 : Nat) (v1 : Int32) (v2 : Int32) (v3 : Int32) (k_v0 : v0 < 2) (σ : kf_St) {q : (Int32 × kf_St)} (h : f_J1_indexOfChar_4cfef v0 v1 v2 v3 σ = some q) : kf_Ct (1) yJ1_indexOfChar_4cfef cJ1_indexOfChar_4cfef 6 (some .int) G [.ref (kf_tv G v0), .int v1, .int v2, .int v3] σ (some (.int q.1)) q.2 := by
  refine kf_Ct.of hty.1 (lv := [(0, .ref (kf_tv G v0)), (1, .int v1), (2, .int v2), (3, .int v3)]) (by decide +kernel) rfl (Nat.le_of_ble_eq_true rfl) (fun X E => ?_)
  unfold f_J1_indexOfChar_4cfef at h
  refine wa_iload_n 1 rfl E d_J1_indexOfChar_4cfef_0 ?_
  refine wa_i2b E d_J1_indexOfChar_4cfef_1 ?_
  obtain ⟨v4_1, ev4_1, h⟩ := kf_lte h
  refine wa_topi ev4_1 ?_
  refine wa_istore (lv' := [(4, .int v4_1), (0, .ref (kf_tv G v0)), (1, .int v1), (2, .int v2), (3, .int v3)]) (by decide) rfl E d_J1_indexOfChar_4cfef_2 ?_
  refine wa_iload_n 3 rfl E d_J1_indexOfChar_4cfef_4 ?_
  refine wa_istore (lv' := [(5, .int v2), (4, .int v4_1), (0, .ref (kf_tv G v0)), (1, .int v1), (2, .int v2), (3, .int v3)]) (by decide) rfl E d_J1_indexOfChar_4cfef_5 ?_
  refine wa_sub [2, 5, 1, 0] rfl ?_
  exact b_J1_indexOfChar_4cfef_7 E hty kf_F v0 v3 v4_1 v2 k_v0 σ h
/-! J1_indexOf_4cfef -/
theorem d_J1_indexOf_4cfef_0 : kf_dq cJ1_indexOf_4cfef 0 1 1 (.iload_n 1) := ⟨by decide +kernel, rfl⟩
theorem d_J1_indexOf_4cfef_1 : kf_dq cJ1_indexOf_4cfef 1 4 3 (.invokestatic 88) := ⟨by decide +kernel, rfl⟩
theorem d_J1_indexOf_4cfef_4 : kf_dj cJ1_indexOf_4cfef 4 7 9 (.ifCond .ne) := ⟨5, by decide +kernel, rfl, by decide⟩
theorem d_J1_indexOf_4cfef_7 : kf_dq cJ1_indexOf_4cfef 7 8 1 (.iconst (-1)) := ⟨by decide +kernel, rfl⟩
theorem d_J1_indexOf_4cfef_8 : kf_dq cJ1_indexOf_4cfef 8 9 1 (.ireturn) := ⟨by decide +kernel, rfl⟩
theorem d_J1_indexOf_4cfef_9 : kf_dq cJ1_indexOf_4cfef 9 10 1 (.iload_n 2) := ⟨by decide +kernel, rfl⟩
theorem d_J1_indexOf_4cfef_10 : kf_dq cJ1_indexOf_4cfef 10 11 1 (.iconst 0) := ⟨by decide +kernel, rfl⟩
theorem d_J1_indexOf_4cfef_11 : kf_dq cJ1_indexOf_4cfef 11 14 3 (.invokestatic 92) := ⟨by decide +kernel, rfl⟩
theorem d_J1_indexOf_4cfef_14 : kf_dq cJ1_indexOf_4cfef 14 15 1 (.istore_n 2) := ⟨by decide +kernel, rfl⟩
theorem d_J1_indexOf_4cfef_15 : kf_dq cJ1_indexOf_4cfef 15 16 1 (.iload_n 3) := ⟨by decide +kernel, rfl⟩
theorem d_J1_indexOf_4cfef_16 : kf_dq cJ1_indexOf_4cfef 16 17 1 (.aload_n 0) := ⟨by decide +kernel, rfl⟩
theorem d_J1_indexOf_4cfef_17 : kf_dq cJ1_indexOf_4cfef 17 18 1 (.arraylength) := ⟨by decide +kernel, rfl⟩
theorem d_J1_indexOf_4cfef_18 : kf_dq cJ1_indexOf_4cfef 18 21 3 (.invokestatic 38) := ⟨by decide +kernel, rfl⟩
theorem d_J1_indexOf_4cfef_21 : kf_dq cJ1_indexOf_4cfef 21 22 1 (.istore_n 3) := ⟨by decide +kernel, rfl⟩
theorem d_J1_indexOf_4cfef_22 : kf_dq cJ1_indexOf_4cfef 22 23 1 (.iload_n 2) := ⟨by decide +kernel, rfl⟩
theorem d_J1_indexOf_4cfef_23 : kf_dq cJ1_indexOf_4cfef 23 24 1 (.iload_n 3) := ⟨by decide +kernel, rfl⟩
theorem d_J1_indexOf_4cfef_24 : kf_dj cJ1_indexOf_4cfef 24 27 29 (.if_icmp .lt) := ⟨5, by decide +kernel, rfl, by decide⟩
theorem d_J1_indexOf_4cfef_27 : kf_dq cJ1_indexOf_4cfef 27 28 1 (.iconst (-1)) := ⟨by decide +kernel, rfl⟩
theorem d_J1_indexOf_4cfef_28 : kf_dq cJ1_indexOf_4cfef 28 29 1 (.ireturn) := ⟨by decide +kernel, rfl⟩
theorem d_J1_indexOf_4cfef_29 : kf_dq cJ1_indexOf_4cfef 29 30 1 (.aload_n 0) := ⟨by decide +kernel, rfl⟩
theorem d_J1_indexOf_4cfef_30 : kf_dq cJ1_indexOf_4cfef 30 31 1 (.iload_n 1) := ⟨by decide +kernel, rfl⟩
theorem d_J1_indexOf_4cfef_31 : kf_dq cJ1_indexOf_4cfef 31 32 1 (.iload_n 2) := ⟨by decide +kernel, rfl⟩
theorem d_J1_indexOf_4cfef_32 : kf_dq cJ1_indexOf_4cfef 32 33 1 (.iload_n 3) := ⟨by decide +kernel, rfl⟩
theorem d_J1_indexOf_4cfef_33 : kf_dq cJ1_indexOf_4cfef 33 36 3 (.invokestatic 95) := ⟨by decide +kernel, rfl⟩
theorem d_J1_indexOf_4cfef_36 : kf_dq cJ1_indexOf_4cfef 36 37 1 (.ireturn) := ⟨by decide +kernel, rfl⟩
def f_J1_indexOf_4cfef (v0 : Nat) (v1 : Int32) (v2 : Int32) (v3 : Int32) (σ : kf_St) : Option (Int32 × kf_St) :=
  (f_J1_canEncode_9a6ad v1 σ).bind fun q_1 =>
  if q_1.1 = 0 then
    some ((-1), q_1.2)
  else
    kf_lt (if v2 < 0 then 0 else v2) fun x_3 =>
    kf_lt (if (nI (kf_len.getD v0 0)) < v3 then (nI (kf_len.getD v0 0)) else v3) fun x_4 =>
    if x_3 < x_4 then
      (f_J1_indexOfChar_4cfef v0 v1 x_3 x_4 q_1.2).bind fun q_6 =>
      some (q_6.1, q_6.2)
    else
      some ((-1), q_1.2)
set_option maxRecDepth 100000 in
set_option maxHeartbeats 4000000 in
theorem c_J1_indexOf_4cfef {G : kf_G} (hty : kf_wt G) (v0 : Nat) (v1 : Int32) (v2 : Int32) (v3 : Int32) (k_v0 : v0 < 2) (σ : kf_St) {q : (Int32 × kf_St)} (h : f_J1_indexOf_4cfef v0 v1 v2 v3 σ = some q) : kf_Ct (2) yJ1_indexOf_4cfef cJ1_indexOf_4cfef 4 (some .int) G [.ref (kf_tv G v0), .int v1, .int v2, .int v3] σ (some (.int q.1)) q.2 := by
  refine kf_Ct.of hty.1 (lv := [(0, .ref (kf_tv G v0)), (1, .int v1), (2, .int v2), (3, .int v3)]) (by decide +kernel) rfl (Nat.le_of_ble_eq_true rfl) (fun X E => ?_)
  unfold f_J1_indexOf_4cfef at h
  refine wa_iload_n 1 rfl E d_J1_indexOf_4cfef_0 ?_
  obtain ⟨q_1, hq_1, h⟩ := kf_bd h
  refine wa_callS (st2 := [.int q_1.1]) (c_J1_canEncode_9a6ad hty v1 σ hq_1) mt_J1_canEncode_9a6ad ml_J1_88 rfl (Nat.le_of_ble_eq_true rfl) rfl (Nat.le_of_ble_eq_true rfl) E d_J1_indexOf_4cfef_1 rfl ?_
  refine wa_if_ne E d_J1_indexOf_4cfef_4 (fun c_2 => ?_) (fun c_2 => ?_)
  · replace h := kf_iff c_2 h
    refine wa_iload_n 2 rfl E d_J1_indexOf_4cfef_9 ?_
    refine wa_iconst 0 ic_0 E d_J1_indexOf_4cfef_10 ?_
    refine wa_mmax ml_J1_92 ms_max mini mc_max (Nat.le_of_ble_eq_true rfl) (Nat.le_of_ble_eq_true rfl) E d_J1_indexOf_4cfef_11 ?_
    obtain ⟨x_3, ex_3, h⟩ := kf_lte h
    refine wa_topi ex_3 ?_
    refine wa_istore_n (lv' := [(2, .int x_3), (0, .ref (kf_tv G v0)), (1, .int v1), (3, .int v3)]) rfl (by decide) rfl E d_J1_indexOf_4cfef_14 ?_
    refine wa_iload_n 3 rfl E d_J1_indexOf_4cfef_15 ?_
    refine wa_aload_n 1 rfl E d_J1_indexOf_4cfef_16 ?_
    refine wa_tlen k_v0 E d_J1_indexOf_4cfef_17 ?_
    refine wa_mmin ml_J1_38 ms_min mini mc_min (Nat.le_of_ble_eq_true rfl) (Nat.le_of_ble_eq_true rfl) E d_J1_indexOf_4cfef_18 ?_
    obtain ⟨x_4, ex_4, h⟩ := kf_lte h
    refine wa_topi ex_4 ?_
    refine wa_istore_n (lv' := [(3, .int x_4), (2, .int x_3), (0, .ref (kf_tv G v0)), (1, .int v1)]) rfl (by decide) rfl E d_J1_indexOf_4cfef_21 ?_
    refine wa_iload_n 1 rfl E d_J1_indexOf_4cfef_22 ?_
    refine wa_iload_n 0 rfl E d_J1_indexOf_4cfef_23 ?_
    refine wa_icmp_lt E d_J1_indexOf_4cfef_24 (fun c_5 => ?_) (fun c_5 => ?_)
    · replace h := kf_ift c_5 h
      refine wa_aload_n 2 rfl E d_J1_indexOf_4cfef_29 ?_
      refine wa_iload_n 3 rfl E d_J1_indexOf_4cfef_30 ?_
      refine wa_iload_n 1 rfl E d_J1_indexOf_4cfef_31 ?_
      refine wa_iload_n 0 rfl E d_J1_indexOf_4cfef_32 ?_
      obtain ⟨q_6, hq_6, h⟩ := kf_bd h
      refine wa_callS (st2 := [.int q_6.1]) (c_J1_indexOfChar_4cfef hty v0 v1 x_3 x_4 k_v0 q_1.2 hq_6) mt_J1_indexOfChar_4cfef ml_J1_95 rfl (Nat.le_of_ble_eq_true rfl) rfl (Nat.le_of_ble_eq_true rfl) E d_J1_indexOf_4cfef_33 rfl ?_
      cases h
      exact wa_iret E d_J1_indexOf_4cfef_36
    · replace h := kf_iff c_5 h
      refine wa_iconst (-1) ic_m1 E d_J1_indexOf_4cfef_27 ?_
      cases h
      exact wa_iret E d_J1_indexOf_4cfef_28
  · replace h := kf_ift c_2 h
    refine wa_iconst (-1) ic_m1 E d_J1_indexOf_4cfef_7 ?_
    cases h
    exact wa_iret E d_J1_indexOf_4cfef_8
/-! J0_indexOf_7cf53 -/
theorem d_J0_indexOf_7cf53_0 : kf_dq cJ0_indexOf_7cf53 0 1 1 (.aload_n 0) := ⟨by decide +kernel, rfl⟩
theorem d_J0_indexOf_7cf53_1 : kf_dq cJ0_indexOf_7cf53 1 4 3 (.invokevirtual 492) := ⟨by decide +kernel, rfl⟩
theorem d_J0_indexOf_7cf53_4 : kf_dj cJ0_indexOf_7cf53 4 7 23 (.ifCond .eq) := ⟨19, by decide +kernel, rfl, by decide⟩
theorem d_J0_indexOf_7cf53_7 : kf_dq cJ0_indexOf_7cf53 7 8 1 (.aload_n 0) := ⟨by decide +kernel, rfl⟩
theorem d_J0_indexOf_7cf53_8 : kf_dq cJ0_indexOf_7cf53 8 11 3 (.getfield 9) := ⟨by decide +kernel, rfl⟩
theorem d_J0_indexOf_7cf53_11 : kf_dq cJ0_indexOf_7cf53 11 12 1 (.iload_n 1) := ⟨by decide +kernel, rfl⟩
theorem d_J0_indexOf_7cf53_12 : kf_dq cJ0_indexOf_7cf53 12 13 1 (.iload_n 2) := ⟨by decide +kernel, rfl⟩
theorem d_J0_indexOf_7cf53_13 : kf_dq cJ0_indexOf_7cf53 13 14 1 (.aload_n 0) := ⟨by decide +kernel, rfl⟩
theorem d_J0_indexOf_7cf53_14 : kf_dq cJ0_indexOf_7cf53 14 17 3 (.invokevirtual 505) := ⟨by decide +kernel, rfl⟩
theorem d_J0_indexOf_7cf53_17 : kf_dq cJ0_indexOf_7cf53 17 20 3 (.invokestatic 637) := ⟨by decide +kernel, rfl⟩
theorem d_J0_indexOf_7cf53_20 : kf_dj cJ0_indexOf_7cf53 20 23 36 .goto := ⟨16, by decide +kernel, rfl, by decide⟩
theorem d_J0_indexOf_7cf53_36 : kf_dq cJ0_indexOf_7cf53 36 37 1 (.ireturn) := ⟨by decide +kernel, rfl⟩
def f_J0_indexOf_7cf53 (v0 : Nat) (v1 : Int32) (v2 : Int32) (σ : kf_St) : Option (Int32 × kf_St) :=
    (f_J1_indexOf_4cfef v0 v1 v2 ((nI (kf_len.getD v0 0)) >>> (0 &&& 31)) σ).bind fun q_4 =>
    some (q_4.1, q_4.2)
set_option maxRecDepth 100000 in
set_option maxHeartbeats 4000000 in
theorem c_J0_indexOf_7cf53 {G : kf_G} (hty : kf_wt G) (v0 : Nat) (v1 : Int32) (v2 : Int32) (k_v0 : v0 < 2) (σ : kf_St) {q : (Int32 × kf_St)} (h : f_J0_indexOf_7cf53 v0 v1 v2 σ = some q) : kf_Ct (3) yJ0_indexOf_7cf53 cJ0_indexOf_7cf53 3 (some .int) G [.ref (kf_tk G v0), .int v1, .int v2] σ (some (.int q.1)) q.2 := by
  refine kf_Ct.of hty.1 (lv := [(0, .ref (kf_tk G v0)), (1, .int v1), (2, .int v2)]) (by decide +kernel) rfl (Nat.le_of_ble_eq_true rfl) (fun X E => ?_)
  unfold f_J0_indexOf_7cf53 at h
  refine wa_aload_n 0 rfl E d_J0_indexOf_7cf53_0 ?_
  refine wa_callT (st2 := [.int 1]) (σ' := σ) (o := some (.int 1)) (c_J0_isLatin1_aae02 hty v0 k_v0 σ (q := (1, σ)) rfl) mj_J0_isLatin1_aae02 ml_J0_492 k_v0 rfl (Nat.le_of_ble_eq_true rfl) rfl (Nat.le_of_ble_eq_true rfl) E d_J0_indexOf_7cf53_1 rfl ?_
  refine wa_if_eq E d_J0_indexOf_7cf53_4 (fun c_2 => ?_) (fun c_2 => ?_)
  · exact absurd c_2 (by decide)
  · clear c_2
    refine wa_aload_n 0 rfl E d_J0_indexOf_7cf53_7 ?_
    refine wa_gval k_v0 sfl_J0_9 E d_J0_indexOf_7cf53_8 ?_
    refine wa_iload_n 1 rfl E d_J0_indexOf_7cf53_11 ?_
    refine wa_iload_n 2 rfl E d_J0_indexOf_7cf53_12 ?_
    refine wa_aload_n 0 rfl E d_J0_indexOf_7cf53_13 ?_
    refine wa_callT (st2 := [.int ((nI (kf_len.getD v0 0)) >>> (0 &&& 31)), .int v2, .int v1, .ref (kf_tv G v0)]) (σ' := σ) (o := some (.int ((nI (kf_len.getD v0 0)) >>> (0 &&& 31)))) (c_J0_length_8abf5 hty v0 k_v0 σ (q := (((nI (kf_len.getD v0 0)) >>> (0 &&& 31)), σ)) rfl) mj_J0_length_8abf5 ml_J0_505 k_v0 rfl (Nat.le_of_ble_eq_true rfl) rfl (Nat.le_of_ble_eq_true rfl) E d_J0_indexOf_7cf53_14 rfl ?_
    obtain ⟨q_4, hq_4, h⟩ := kf_bd h
    refine wa_callS (st2 := [.int q_4.1]) (c_J1_indexOf_4cfef hty v0 v1 v2 ((nI (kf_len.getD v0 0)) >>> (0 &&& 31)) k_v0 σ hq_4) mt_J1_indexOf_4cfef ml_J0_637 rfl (Nat.le_of_ble_eq_true rfl) rfl (Nat.le_of_ble_eq_true rfl) E d_J0_indexOf_7cf53_17 rfl ?_
    refine wa_goto E d_J0_indexOf_7cf53_20 ?_
    cases h
    exact wa_iret E d_J0_indexOf_7cf53_36
/-! J0_indexOf_0f7a4 -/
theorem d_J0_indexOf_0f7a4_0 : kf_dq cJ0_indexOf_0f7a4 0 1 1 (.aload_n 0) := ⟨by decide +kernel, rfl⟩
theorem d_J0_indexOf_0f7a4_1 : kf_dq cJ0_indexOf_0f7a4 1 2 1 (.iload_n 1) := ⟨by decide +kernel, rfl⟩
theorem d_J0_indexOf_0f7a4_2 : kf_dq cJ0_indexOf_0f7a4 2 3 1 (.iconst 0) := ⟨by decide +kernel, rfl⟩
theorem d_J0_indexOf_0f7a4_3 : kf_dq cJ0_indexOf_0f7a4 3 6 3 (.invokevirtual 633) := ⟨by decide +kernel, rfl⟩
theorem d_J0_indexOf_0f7a4_6 : kf_dq cJ0_indexOf_0f7a4 6 7 1 (.ireturn) := ⟨by decide +kernel, rfl⟩
def f_J0_indexOf_0f7a4 (v0 : Nat) (v1 : Int32) (σ : kf_St) : Option (Int32 × kf_St) :=
  (f_J0_indexOf_7cf53 v0 v1 0 σ).bind fun q_1 =>
  some (q_1.1, q_1.2)
set_option maxRecDepth 100000 in
set_option maxHeartbeats 4000000 in
theorem c_J0_indexOf_0f7a4 {G : kf_G} (hty : kf_wt G) (v0 : Nat) (v1 : Int32) (k_v0 : v0 < 2) (σ : kf_St) {q : (Int32 × kf_St)} (h : f_J0_indexOf_0f7a4 v0 v1 σ = some q) : kf_Ct (4) yJ0_indexOf_0f7a4 cJ0_indexOf_0f7a4 2 (some .int) G [.ref (kf_tk G v0), .int v1] σ (some (.int q.1)) q.2 := by
  refine kf_Ct.of hty.1 (lv := [(0, .ref (kf_tk G v0)), (1, .int v1)]) (by decide +kernel) rfl (Nat.le_of_ble_eq_true rfl) (fun X E => ?_)
  unfold f_J0_indexOf_0f7a4 at h
  refine wa_aload_n 0 rfl E d_J0_indexOf_0f7a4_0 ?_
  refine wa_iload_n 1 rfl E d_J0_indexOf_0f7a4_1 ?_
  refine wa_iconst 0 ic_0 E d_J0_indexOf_0f7a4_2 ?_
  obtain ⟨q_1, hq_1, h⟩ := kf_bd h
  refine wa_callT (st2 := [.int q_1.1]) (c_J0_indexOf_7cf53 hty v0 v1 0 k_v0 σ hq_1) mj_J0_indexOf_7cf53 ml_J0_633 k_v0 rfl (Nat.le_of_ble_eq_true rfl) rfl (Nat.le_of_ble_eq_true rfl) E d_J0_indexOf_0f7a4_3 rfl ?_
  cases h
  exact wa_iret E d_J0_indexOf_0f7a4_6
/-! X8_cutOne -/
theorem d_X8_cutOne_0 : kf_dq cX8_cutOne 0 1 1 (.aload_n 0) := ⟨by decide +kernel, rfl⟩
theorem d_X8_cutOne_1 : kf_dq cX8_cutOne 1 2 1 (.aload_n 0) := ⟨by decide +kernel, rfl⟩
theorem d_X8_cutOne_2 : kf_dq cX8_cutOne 2 5 3 (.getfield 54) := ⟨by decide +kernel, rfl⟩
theorem d_X8_cutOne_5 : kf_dq cX8_cutOne 5 8 3 (.invokevirtual 70) := ⟨by decide +kernel, rfl⟩
theorem d_X8_cutOne_8 : kf_dq cX8_cutOne 8 9 1 (.istore_n 1) := ⟨by decide +kernel, rfl⟩
theorem d_X8_cutOne_9 : kf_dq cX8_cutOne 9 10 1 (.aload_n 0) := ⟨by decide +kernel, rfl⟩
theorem d_X8_cutOne_10 : kf_dq cX8_cutOne 10 11 1 (.lconst 0) := ⟨by decide +kernel, rfl⟩
theorem d_X8_cutOne_11 : kf_dq cX8_cutOne 11 14 3 (.putfield 66) := ⟨by decide +kernel, rfl⟩
theorem d_X8_cutOne_14 : kf_dq cX8_cutOne 14 15 1 (.iload_n 1) := ⟨by decide +kernel, rfl⟩
theorem d_X8_cutOne_15 : kf_dq cX8_cutOne 15 16 1 (.iconst (-1)) := ⟨by decide +kernel, rfl⟩
theorem d_X8_cutOne_16 : kf_dj cX8_cutOne 16 19 27 (.if_icmp .ne) := ⟨11, by decide +kernel, rfl, by decide⟩
theorem d_X8_cutOne_19 : kf_dq cX8_cutOne 19 20 1 (.aload_n 0) := ⟨by decide +kernel, rfl⟩
theorem d_X8_cutOne_20 : kf_dq cX8_cutOne 20 21 1 (.iconst 0) := ⟨by decide +kernel, rfl⟩
theorem d_X8_cutOne_21 : kf_dq cX8_cutOne 21 24 3 (.putfield 57) := ⟨by decide +kernel, rfl⟩
theorem d_X8_cutOne_24 : kf_dj cX8_cutOne 24 27 84 .goto := ⟨60, by decide +kernel, rfl, by decide⟩
theorem d_X8_cutOne_27 : kf_dq cX8_cutOne 27 28 1 (.iload_n 1) := ⟨by decide +kernel, rfl⟩
theorem d_X8_cutOne_28 : kf_dq cX8_cutOne 28 31 3 (.invokestatic 78) := ⟨by decide +kernel, rfl⟩
theorem d_X8_cutOne_31 : kf_dj cX8_cutOne 31 34 41 (.ifCond .eq) := ⟨10, by decide +kernel, rfl, by decide⟩
theorem d_X8_cutOne_34 : kf_dq cX8_cutOne 34 35 1 (.aload_n 0) := ⟨by decide +kernel, rfl⟩
theorem d_X8_cutOne_35 : kf_dq cX8_cutOne 35 38 3 (.invokevirtual 81) := ⟨by decide +kernel, rfl⟩
theorem d_X8_cutOne_38 : kf_dj cX8_cutOne 38 41 84 .goto := ⟨46, by decide +kernel, rfl, by decide⟩
theorem d_X8_cutOne_41 : kf_dq cX8_cutOne 41 42 1 (.iload_n 1) := ⟨by decide +kernel, rfl⟩
theorem d_X8_cutOne_42 : kf_dq cX8_cutOne 42 45 3 (.invokestatic 84) := ⟨by decide +kernel, rfl⟩
theorem d_X8_cutOne_45 : kf_dj cX8_cutOne 45 48 55 (.ifCond .eq) := ⟨10, by decide +kernel, rfl, by decide⟩
theorem d_X8_cutOne_48 : kf_dq cX8_cutOne 48 49 1 (.aload_n 0) := ⟨by decide +kernel, rfl⟩
theorem d_X8_cutOne_49 : kf_dq cX8_cutOne 49 52 3 (.invokevirtual 87) := ⟨by decide +kernel, rfl⟩
theorem d_X8_cutOne_52 : kf_dj cX8_cutOne 52 55 84 .goto := ⟨32, by decide +kernel, rfl, by decide⟩
theorem d_X8_cutOne_55 : kf_dq cX8_cutOne 55 56 1 (.aload_n 0) := ⟨by decide +kernel, rfl⟩
theorem d_X8_cutOne_56 : kf_dq cX8_cutOne 56 58 2 (.ldc 90) := ⟨by decide +kernel, rfl⟩
theorem d_X8_cutOne_58 : kf_dq cX8_cutOne 58 59 1 (.iload_n 1) := ⟨by decide +kernel, rfl⟩
theorem d_X8_cutOne_59 : kf_dq cX8_cutOne 59 60 1 (.i2c) := ⟨by decide +kernel, rfl⟩
theorem d_X8_cutOne_60 : kf_dq cX8_cutOne 60 63 3 (.invokevirtual 92) := ⟨by decide +kernel, rfl⟩
theorem d_X8_cutOne_63 : kf_dj cX8_cutOne 63 66 70 (.ifCond .lt) := ⟨7, by decide +kernel, rfl, by decide⟩
theorem d_X8_cutOne_66 : kf_dq cX8_cutOne 66 67 1 (.iload_n 1) := ⟨by decide +kernel, rfl⟩
theorem d_X8_cutOne_67 : kf_dj cX8_cutOne 67 70 71 .goto := ⟨4, by decide +kernel, rfl, by decide⟩
theorem d_X8_cutOne_70 : kf_dq cX8_cutOne 70 71 1 (.iconst 1) := ⟨by decide +kernel, rfl⟩
theorem d_X8_cutOne_71 : kf_dq cX8_cutOne 71 74 3 (.putfield 57) := ⟨by decide +kernel, rfl⟩
theorem d_X8_cutOne_74 : kf_dq cX8_cutOne 74 75 1 (.aload_n 0) := ⟨by decide +kernel, rfl⟩
theorem d_X8_cutOne_75 : kf_dq cX8_cutOne 75 76 1 (.dup) := ⟨by decide +kernel, rfl⟩
theorem d_X8_cutOne_76 : kf_dq cX8_cutOne 76 79 3 (.getfield 54) := ⟨by decide +kernel, rfl⟩
theorem d_X8_cutOne_79 : kf_dq cX8_cutOne 79 80 1 (.iconst 1) := ⟨by decide +kernel, rfl⟩
theorem d_X8_cutOne_80 : kf_dq cX8_cutOne 80 81 1 (.iadd) := ⟨by decide +kernel, rfl⟩
theorem d_X8_cutOne_81 : kf_dq cX8_cutOne 81 84 3 (.putfield 54) := ⟨by decide +kernel, rfl⟩
theorem d_X8_cutOne_84 : kf_dq cX8_cutOne 84 85 1 (.return_) := ⟨by decide +kernel, rfl⟩
def f_X8_cutOne_71 (v0 : Nat) (s0 : Nat) (s1 : Int32) (σ : kf_St) : Option kf_St :=
  kf_lt (kf_wi σ s0 7 s1) fun σ_1 =>
  kf_lt (kf_wi σ_1 v0 6 ((σ_1.1 v0 6) + 1)) fun σ_2 =>
  some σ_2
set_option maxRecDepth 100000 in
set_option maxHeartbeats 4000000 in
theorem b_X8_cutOne_71 {X : kf_X} {G : kf_G} {q : kf_St} (E : kf_ok X G cX8_cutOne RX8 2 none (5)) (hty : kf_wt G) (v0 : Nat) (s0 : Nat) (s1 : Int32) (k_v0 : kf_kd G v0 = 9) (k_s0 : kf_kd G s0 = 9) (σ : kf_St) (h : f_X8_cutOne_71 v0 s0 s1 σ = some q) : kf_WA X G 2 (kf_Q X G none q) 71 [(0, .ref (kf_ad G v0))] [.int s1, .ref (kf_ad G s0)] σ := by
  unfold f_X8_cutOne_71 at h
  obtain ⟨σ_1, eσ_1, h⟩ := kf_lte h
  refine wa_putI fl_X8_57 fp_8_7 k_s0 rfl (by decide) rfl rfl E d_X8_cutOne_71 eσ_1 ?_
  refine wa_aload_n 0 rfl E d_X8_cutOne_74 ?_
  refine wa_dup rfl E d_X8_cutOne_75 ?_
  refine wa_getI fl_X8_54 k_v0 rfl E d_X8_cutOne_76 ?_
  refine wa_iconst 1 ic_1 E d_X8_cutOne_79 ?_
  refine wa_iadd E d_X8_cutOne_80 ?_
  obtain ⟨σ_2, eσ_2, h⟩ := kf_lte h
  refine wa_putI fl_X8_54 fp_8_6 k_v0 rfl (by decide) rfl rfl E d_X8_cutOne_81 eσ_2 ?_
  cases h
  exact wa_vret E d_X8_cutOne_84
def f_X8_cutOne (v0 : Nat) (σ : kf_St) : Option kf_St :=
  (f_X8_byteAt v0 (σ.1 v0 6) σ).bind fun q_1 =>
  kf_lt (kf_wl q_1.2 v0 8 (0 : Int64)) fun σ_2 =>
  if q_1.1 = (-1) then
    kf_lt (kf_wi σ_2 v0 7 0) fun σ_12 =>
    some σ_12
  else
    (f_X8_isLetter q_1.1 σ_2).bind fun q_4 =>
    if q_4.1 = 0 then
      (f_X8_isDigit q_1.1 q_4.2).bind fun q_6 =>
      if q_6.1 = 0 then
        (f_J0_indexOf_0f7a4 1 (Int32.toUInt32 q_1.1 % 65536).toInt32 q_6.2).bind fun q_8 =>
        if q_8.1 < 0 then
          f_X8_cutOne_71 v0 v0 1 q_8.2
        else
          f_X8_cutOne_71 v0 v0 q_1.1 q_8.2
      else
        (f_X8_cutNumber v0 q_6.2).bind fun q_10 =>
        some q_10
    else
      (f_X8_cutWord v0 q_4.2).bind fun q_11 =>
      some q_11
set_option maxRecDepth 100000 in
set_option maxHeartbeats 4000000 in
theorem c_X8_cutOne {G : kf_G} (hty : kf_wt G) (v0 : Nat) (k_v0 : kf_kd G v0 = 9) (σ : kf_St) {q : kf_St} (h : f_X8_cutOne v0 σ = some q) : kf_Ct (5) yX8_cutOne cX8_cutOne 2 none G [.ref (kf_ad G v0)] σ none q := by
  refine kf_Ct.of hty.1 (lv := [(0, .ref (kf_ad G v0))]) (by decide +kernel) rfl (Nat.le_of_ble_eq_true rfl) (fun X E => ?_)
  unfold f_X8_cutOne at h
  refine wa_aload_n 0 rfl E d_X8_cutOne_0 ?_
  refine wa_aload_n 0 rfl E d_X8_cutOne_1 ?_
  refine wa_getI fl_X8_54 k_v0 rfl E d_X8_cutOne_2 ?_
  obtain ⟨q_1, hq_1, h⟩ := kf_bd h
  refine wa_callV (st2 := [.int q_1.1]) (c_X8_byteAt hty v0 (σ.1 v0 6) k_v0 σ hq_1) mv_X8_byteAt ml_X8_70 k_v0 rfl (Nat.le_of_ble_eq_true rfl) rfl (Nat.le_of_ble_eq_true rfl) E d_X8_cutOne_5 rfl ?_
  refine wa_istore_n (lv' := [(1, .int q_1.1), (0, .ref (kf_ad G v0))]) rfl (by decide) rfl E d_X8_cutOne_8 ?_
  refine wa_aload_n 1 rfl E d_X8_cutOne_9 ?_
  refine wa_lconst 0 lc_0 E d_X8_cutOne_10 ?_
  obtain ⟨σ_2, eσ_2, h⟩ := kf_lte h
  refine wa_putJ fl_X8_66 fp_8_8 k_v0 rfl E d_X8_cutOne_11 eσ_2 ?_
  refine wa_iload_n 0 rfl E d_X8_cutOne_14 ?_
  refine wa_iconst (-1) ic_m1 E d_X8_cutOne_15 ?_
  refine wa_icmp_ne E d_X8_cutOne_16 (fun c_3 => ?_) (fun c_3 => ?_)
  · replace h := kf_iff c_3 h
    refine wa_iload_n 0 rfl E d_X8_cutOne_27 ?_
    obtain ⟨q_4, hq_4, h⟩ := kf_bd h
    refine wa_callS (st2 := [.int q_4.1]) (c_X8_isLetter hty q_1.1 σ_2 hq_4) mt_X8_isLetter ml_X8_78 rfl (Nat.le_of_ble_eq_true rfl) rfl (Nat.le_of_ble_eq_true rfl) E d_X8_cutOne_28 rfl ?_
    refine wa_if_eq E d_X8_cutOne_31 (fun c_5 => ?_) (fun c_5 => ?_)
    · replace h := kf_ift c_5 h
      refine wa_iload_n 0 rfl E d_X8_cutOne_41 ?_
      obtain ⟨q_6, hq_6, h⟩ := kf_bd h
      refine wa_callS (st2 := [.int q_6.1]) (c_X8_isDigit hty q_1.1 q_4.2 hq_6) mt_X8_isDigit ml_X8_84 rfl (Nat.le_of_ble_eq_true rfl) rfl (Nat.le_of_ble_eq_true rfl) E d_X8_cutOne_42 rfl ?_
      refine wa_if_eq E d_X8_cutOne_45 (fun c_7 => ?_) (fun c_7 => ?_)
      · replace h := kf_ift c_7 h
        refine wa_aload_n 1 rfl E d_X8_cutOne_55 ?_
        refine wa_ldcS (i := 1) E.2.2.2.2.2.2.2.2.1.2.2.1 E d_X8_cutOne_56 ?_
        refine wa_iload_n 0 rfl E d_X8_cutOne_58 ?_
        refine wa_i2c E d_X8_cutOne_59 ?_
        obtain ⟨q_8, hq_8, h⟩ := kf_bd h
        refine wa_callT (st2 := [.int q_8.1, .ref (kf_ad G v0)]) (c_J0_indexOf_0f7a4 hty 1 (Int32.toUInt32 q_1.1 % 65536).toInt32 (by decide) q_6.2 hq_8) mj_J0_indexOf_0f7a4 ml_X8_92 (by decide) rfl (Nat.le_of_ble_eq_true rfl) rfl (Nat.le_of_ble_eq_true rfl) E d_X8_cutOne_60 rfl ?_
        refine wa_if_lt E d_X8_cutOne_63 (fun c_9 => ?_) (fun c_9 => ?_)
        · replace h := kf_ift c_9 h
          refine wa_iconst 1 ic_1 E d_X8_cutOne_70 ?_
          refine wa_sub [1] rfl ?_
          exact b_X8_cutOne_71 E hty v0 v0 1 k_v0 k_v0 q_8.2 h
        · replace h := kf_iff c_9 h
          refine wa_iload_n 0 rfl E d_X8_cutOne_66 ?_
          refine wa_goto E d_X8_cutOne_67 ?_
          refine wa_sub [1] rfl ?_
          exact b_X8_cutOne_71 E hty v0 v0 q_1.1 k_v0 k_v0 q_8.2 h
      · replace h := kf_iff c_7 h
        refine wa_aload_n 1 rfl E d_X8_cutOne_48 ?_
        obtain ⟨q_10, hq_10, h⟩ := kf_bd h
        refine wa_callV (st2 := []) (c_X8_cutNumber hty v0 k_v0 q_6.2 hq_10) mv_X8_cutNumber ml_X8_87 k_v0 rfl (Nat.le_of_ble_eq_true rfl) rfl (Nat.le_of_ble_eq_true rfl) E d_X8_cutOne_49 rfl ?_
        refine wa_goto E d_X8_cutOne_52 ?_
        cases h
        exact wa_vret E d_X8_cutOne_84
    · replace h := kf_iff c_5 h
      refine wa_aload_n 1 rfl E d_X8_cutOne_34 ?_
      obtain ⟨q_11, hq_11, h⟩ := kf_bd h
      refine wa_callV (st2 := []) (c_X8_cutWord hty v0 k_v0 q_4.2 hq_11) mv_X8_cutWord ml_X8_81 k_v0 rfl (Nat.le_of_ble_eq_true rfl) rfl (Nat.le_of_ble_eq_true rfl) E d_X8_cutOne_35 rfl ?_
      refine wa_goto E d_X8_cutOne_38 ?_
      cases h
      exact wa_vret E d_X8_cutOne_84
  · replace h := kf_ift c_3 h
    refine wa_aload_n 1 rfl E d_X8_cutOne_19 ?_
    refine wa_iconst 0 ic_0 E d_X8_cutOne_20 ?_
    obtain ⟨σ_12, eσ_12, h⟩ := kf_lte h
    refine wa_putI fl_X8_57 fp_8_7 k_v0 rfl (by decide) rfl rfl E d_X8_cutOne_21 eσ_12 ?_
    refine wa_goto E d_X8_cutOne_24 ?_
    cases h
    exact wa_vret E d_X8_cutOne_84
/-! X8_cut -/
theorem d_X8_cut_0 : kf_dq cX8_cut 0 1 1 (.aload_n 0) := ⟨by decide +kernel, rfl⟩
theorem d_X8_cut_1 : kf_dq cX8_cut 1 2 1 (.iconst 0) := ⟨by decide +kernel, rfl⟩
theorem d_X8_cut_2 : kf_dq cX8_cut 2 5 3 (.putfield 54) := ⟨by decide +kernel, rfl⟩
theorem d_X8_cut_5 : kf_dq cX8_cut 5 6 1 (.aload_n 0) := ⟨by decide +kernel, rfl⟩
theorem d_X8_cut_6 : kf_dq cX8_cut 6 7 1 (.iconst 2) := ⟨by decide +kernel, rfl⟩
theorem d_X8_cut_7 : kf_dq cX8_cut 7 10 3 (.putfield 57) := ⟨by decide +kernel, rfl⟩
theorem d_X8_cut_10 : kf_dq cX8_cut 10 11 1 (.iconst 0) := ⟨by decide +kernel, rfl⟩
theorem d_X8_cut_11 : kf_dq cX8_cut 11 12 1 (.istore_n 1) := ⟨by decide +kernel, rfl⟩
theorem d_X8_cut_12 : kf_dq cX8_cut 12 13 1 (.iload_n 1) := ⟨by decide +kernel, rfl⟩
theorem d_X8_cut_13 : kf_dq cX8_cut 13 14 1 (.aload_n 0) := ⟨by decide +kernel, rfl⟩
theorem d_X8_cut_14 : kf_dq cX8_cut 14 17 3 (.getfield 23) := ⟨by decide +kernel, rfl⟩
theorem d_X8_cut_17 : kf_dq cX8_cut 17 18 1 (.arraylength) := ⟨by decide +kernel, rfl⟩
theorem d_X8_cut_18 : kf_dj cX8_cut 18 21 80 (.if_icmp .ge) := ⟨62, by decide +kernel, rfl, by decide⟩
theorem d_X8_cut_21 : kf_dq cX8_cut 21 22 1 (.aload_n 0) := ⟨by decide +kernel, rfl⟩
theorem d_X8_cut_22 : kf_dq cX8_cut 22 25 3 (.getfield 57) := ⟨by decide +kernel, rfl⟩
theorem d_X8_cut_25 : kf_dj cX8_cut 25 28 80 (.ifCond .eq) := ⟨55, by decide +kernel, rfl, by decide⟩
theorem d_X8_cut_28 : kf_dq cX8_cut 28 29 1 (.aload_n 0) := ⟨by decide +kernel, rfl⟩
theorem d_X8_cut_29 : kf_dq cX8_cut 29 32 3 (.getfield 57) := ⟨by decide +kernel, rfl⟩
theorem d_X8_cut_32 : kf_dq cX8_cut 32 33 1 (.iconst 1) := ⟨by decide +kernel, rfl⟩
theorem d_X8_cut_33 : kf_dj cX8_cut 33 36 80 (.if_icmp .eq) := ⟨47, by decide +kernel, rfl, by decide⟩
theorem d_X8_cut_36 : kf_dq cX8_cut 36 37 1 (.aload_n 0) := ⟨by decide +kernel, rfl⟩
theorem d_X8_cut_37 : kf_dq cX8_cut 37 40 3 (.invokevirtual 60) := ⟨by decide +kernel, rfl⟩
theorem d_X8_cut_40 : kf_dq cX8_cut 40 41 1 (.aload_n 0) := ⟨by decide +kernel, rfl⟩
theorem d_X8_cut_41 : kf_dq cX8_cut 41 44 3 (.getfield 27) := ⟨by decide +kernel, rfl⟩
theorem d_X8_cut_44 : kf_dq cX8_cut 44 45 1 (.iload_n 1) := ⟨by decide +kernel, rfl⟩
theorem d_X8_cut_45 : kf_dq cX8_cut 45 46 1 (.aload_n 0) := ⟨by decide +kernel, rfl⟩
theorem d_X8_cut_46 : kf_dq cX8_cut 46 49 3 (.getfield 54) := ⟨by decide +kernel, rfl⟩
theorem d_X8_cut_49 : kf_dq cX8_cut 49 50 1 (.iastore) := ⟨by decide +kernel, rfl⟩
theorem d_X8_cut_50 : kf_dq cX8_cut 50 51 1 (.aload_n 0) := ⟨by decide +kernel, rfl⟩
theorem d_X8_cut_51 : kf_dq cX8_cut 51 54 3 (.invokevirtual 63) := ⟨by decide +kernel, rfl⟩
theorem d_X8_cut_54 : kf_dq cX8_cut 54 55 1 (.aload_n 0) := ⟨by decide +kernel, rfl⟩
theorem d_X8_cut_55 : kf_dq cX8_cut 55 58 3 (.getfield 23) := ⟨by decide +kernel, rfl⟩
theorem d_X8_cut_58 : kf_dq cX8_cut 58 59 1 (.iload_n 1) := ⟨by decide +kernel, rfl⟩
theorem d_X8_cut_59 : kf_dq cX8_cut 59 60 1 (.aload_n 0) := ⟨by decide +kernel, rfl⟩
theorem d_X8_cut_60 : kf_dq cX8_cut 60 63 3 (.getfield 57) := ⟨by decide +kernel, rfl⟩
theorem d_X8_cut_63 : kf_dq cX8_cut 63 64 1 (.iastore) := ⟨by decide +kernel, rfl⟩
theorem d_X8_cut_64 : kf_dq cX8_cut 64 65 1 (.aload_n 0) := ⟨by decide +kernel, rfl⟩
theorem d_X8_cut_65 : kf_dq cX8_cut 65 68 3 (.getfield 30) := ⟨by decide +kernel, rfl⟩
theorem d_X8_cut_68 : kf_dq cX8_cut 68 69 1 (.iload_n 1) := ⟨by decide +kernel, rfl⟩
theorem d_X8_cut_69 : kf_dq cX8_cut 69 70 1 (.aload_n 0) := ⟨by decide +kernel, rfl⟩
theorem d_X8_cut_70 : kf_dq cX8_cut 70 73 3 (.getfield 66) := ⟨by decide +kernel, rfl⟩
theorem d_X8_cut_73 : kf_dq cX8_cut 73 74 1 (.lastore) := ⟨by decide +kernel, rfl⟩
theorem d_X8_cut_74 : kf_dq cX8_cut 74 77 3 (.iinc 1 1) := ⟨by decide +kernel, rfl⟩
theorem d_X8_cut_77 : kf_dj cX8_cut 77 80 12 .goto := ⟨(-65), by decide +kernel, rfl, by decide⟩
theorem d_X8_cut_80 : kf_dq cX8_cut 80 81 1 (.return_) := ⟨by decide +kernel, rfl⟩
def f_X8_cut_12_s (rec12 : Nat → Int32 → kf_St → Option kf_St) (v0 : Nat) (v1 : Int32) (σ : kf_St) : Option kf_St :=
  if (nI (kf_ln (kf_rf v0 3))) ≤ v1 then
    some σ
  else
    if (σ.1 v0 7) = 0 then
      some σ
    else
      if (σ.1 v0 7) = 1 then
        some σ
      else
        (f_X8_skipBlanks v0 σ).bind fun q_4 =>
        if kf_ix v1 (kf_ln (kf_rf v0 4)) = true then
        kf_lt (kf_wi q_4 (kf_rf v0 4) (Int32.toNatClampNeg v1) (q_4.1 v0 6)) fun σ_6 =>
        (f_X8_cutOne v0 σ_6).bind fun q_7 =>
        if kf_ix v1 (kf_ln (kf_rf v0 3)) = true then
        kf_lt (kf_wi q_7 (kf_rf v0 3) (Int32.toNatClampNeg v1) (q_7.1 v0 7)) fun σ_9 =>
        if kf_ix v1 (kf_ln (kf_rf v0 5)) = true then
        kf_lt (kf_wl σ_9 (kf_rf v0 5) (Int32.toNatClampNeg v1) (σ_9.2 v0 8)) fun σ_11 =>
        kf_lt (v1 + 1) fun v1_12 =>
        rec12 v0 v1_12 σ_11
        else none
        else none
        else none
def f_X8_cut_12 : Nat → Nat → Int32 → kf_St → Option kf_St
  | 0, _, _, _ => none
  | n + 1, v0, v1, σ => f_X8_cut_12_s (f_X8_cut_12 n) v0 v1 σ
set_option maxRecDepth 100000 in
set_option maxHeartbeats 4000000 in
theorem b_X8_cut_12_s {X : kf_X} {G : kf_G} (rec12 : Nat → Int32 → kf_St → Option kf_St) {q : kf_St} (E : kf_ok X G cX8_cut RX8 2 none (6)) (hty : kf_wt G) (hrec12 : ∀ (v0 : Nat) (v1 : Int32) (k_v0 : kf_kd G v0 = 9) (σ : kf_St), rec12 v0 v1 σ = some q → kf_WA X G 2 (kf_Q X G none q) 12 [(0, .ref (kf_ad G v0)), (1, .int v1)] [] σ) (v0 : Nat) (v1 : Int32) (k_v0 : kf_kd G v0 = 9) (σ : kf_St) (h : f_X8_cut_12_s rec12 v0 v1 σ = some q) : kf_WA X G 2 (kf_Q X G none q) 12 [(0, .ref (kf_ad G v0)), (1, .int v1)] [] σ := by
  unfold f_X8_cut_12_s at h
  refine wa_iload_n 1 rfl E d_X8_cut_12 ?_
  refine wa_aload_n 0 rfl E d_X8_cut_13 ?_
  refine wa_getR fl_X8_23 k_v0 rfl E d_X8_cut_14 ?_
  refine wa_alen_i (kf_wtf hty 3 49 k_v0 (by decide) rfl) E d_X8_cut_17 ?_
  refine wa_icmp_ge E d_X8_cut_18 (fun c_1 => ?_) (fun c_1 => ?_)
  · replace h := kf_ift c_1 h
    cases h
    exact wa_vret E d_X8_cut_80
  · replace h := kf_iff c_1 h
    refine wa_aload_n 0 rfl E d_X8_cut_21 ?_
    refine wa_getI fl_X8_57 k_v0 rfl E d_X8_cut_22 ?_
    refine wa_if_eq E d_X8_cut_25 (fun c_2 => ?_) (fun c_2 => ?_)
    · replace h := kf_ift c_2 h
      cases h
      exact wa_vret E d_X8_cut_80
    · replace h := kf_iff c_2 h
      refine wa_aload_n 0 rfl E d_X8_cut_28 ?_
      refine wa_getI fl_X8_57 k_v0 rfl E d_X8_cut_29 ?_
      refine wa_iconst 1 ic_1 E d_X8_cut_32 ?_
      refine wa_icmp_eq E d_X8_cut_33 (fun c_3 => ?_) (fun c_3 => ?_)
      · replace h := kf_ift c_3 h
        cases h
        exact wa_vret E d_X8_cut_80
      · replace h := kf_iff c_3 h
        refine wa_aload_n 0 rfl E d_X8_cut_36 ?_
        obtain ⟨q_4, hq_4, h⟩ := kf_bd h
        refine wa_callV (st2 := []) (c_X8_skipBlanks hty v0 k_v0 σ hq_4) mv_X8_skipBlanks ml_X8_60 k_v0 rfl (Nat.le_of_ble_eq_true rfl) rfl (Nat.le_of_ble_eq_true rfl) E d_X8_cut_37 rfl ?_
        refine wa_aload_n 0 rfl E d_X8_cut_40 ?_
        refine wa_getR fl_X8_27 k_v0 rfl E d_X8_cut_41 ?_
        refine wa_iload_n 1 rfl E d_X8_cut_44 ?_
        refine wa_aload_n 0 rfl E d_X8_cut_45 ?_
        refine wa_getI fl_X8_54 k_v0 rfl E d_X8_cut_46 ?_
        obtain ⟨g_5, h⟩ := kf_gd h
        obtain ⟨σ_6, eσ_6, h⟩ := kf_lte h
        refine wa_iast (kf_wtf hty 4 49 k_v0 (by decide) rfl) g_5 E d_X8_cut_49 eσ_6 ?_
        refine wa_aload_n 0 rfl E d_X8_cut_50 ?_
        obtain ⟨q_7, hq_7, h⟩ := kf_bd h
        refine wa_callV (st2 := []) (c_X8_cutOne hty v0 k_v0 σ_6 hq_7) mv_X8_cutOne ml_X8_63 k_v0 rfl (Nat.le_of_ble_eq_true rfl) rfl (Nat.le_of_ble_eq_true rfl) E d_X8_cut_51 rfl ?_
        refine wa_aload_n 0 rfl E d_X8_cut_54 ?_
        refine wa_getR fl_X8_23 k_v0 rfl E d_X8_cut_55 ?_
        refine wa_iload_n 1 rfl E d_X8_cut_58 ?_
        refine wa_aload_n 0 rfl E d_X8_cut_59 ?_
        refine wa_getI fl_X8_57 k_v0 rfl E d_X8_cut_60 ?_
        obtain ⟨g_8, h⟩ := kf_gd h
        obtain ⟨σ_9, eσ_9, h⟩ := kf_lte h
        refine wa_iast (kf_wtf hty 3 49 k_v0 (by decide) rfl) g_8 E d_X8_cut_63 eσ_9 ?_
        refine wa_aload_n 0 rfl E d_X8_cut_64 ?_
        refine wa_getR fl_X8_30 k_v0 rfl E d_X8_cut_65 ?_
        refine wa_iload_n 1 rfl E d_X8_cut_68 ?_
        refine wa_aload_n 0 rfl E d_X8_cut_69 ?_
        refine wa_getJ fl_X8_66 k_v0 rfl E d_X8_cut_70 ?_
        obtain ⟨g_10, h⟩ := kf_gd h
        obtain ⟨σ_11, eσ_11, h⟩ := kf_lte h
        refine wa_last (kf_wtf hty 5 50 k_v0 (by decide) rfl) g_10 E d_X8_cut_73 eσ_11 ?_
        obtain ⟨v1_12, ev1_12, h⟩ := kf_lte h
        refine wa_iinc (lv' := [(1, .int v1_12), (0, .ref (kf_ad G v0))]) v1_12 1 rfl (kf_inc ic_1 ev1_12) (by decide) rfl E d_X8_cut_74 ?_
        refine wa_goto E d_X8_cut_77 ?_
        refine wa_sub [1, 0] rfl ?_
        exact hrec12 v0 v1_12 k_v0 σ_11 h
theorem b_X8_cut_12 {X : kf_X} {G : kf_G} {q : kf_St} (E : kf_ok X G cX8_cut RX8 2 none (6)) (hty : kf_wt G) : ∀ (N : Nat) (v0 : Nat) (v1 : Int32) (k_v0 : kf_kd G v0 = 9) (σ : kf_St) (_ : f_X8_cut_12 N v0 v1 σ = some q), kf_WA X G 2 (kf_Q X G none q) 12 [(0, .ref (kf_ad G v0)), (1, .int v1)] [] σ
  | 0, _, _, _, _, h => by cases h
  | N + 1, v0, v1, k_v0, σ, h => b_X8_cut_12_s _ E hty (b_X8_cut_12 E hty N) v0 v1 k_v0 σ h
def f_X8_cut (v0 : Nat) (σ : kf_St) : Option kf_St :=
  kf_lt (kf_wi σ v0 6 0) fun σ_1 =>
  kf_lt (kf_wi σ_1 v0 7 2) fun σ_2 =>
  f_X8_cut_12 kf_F v0 0 σ_2
set_option maxRecDepth 100000 in
set_option maxHeartbeats 4000000 in
theorem c_X8_cut {G : kf_G} (hty : kf_wt G) (v0 : Nat) (k_v0 : kf_kd G v0 = 9) (σ : kf_St) {q : kf_St} (h : f_X8_cut v0 σ = some q) : kf_Ct (6) yX8_cut cX8_cut 2 none G [.ref (kf_ad G v0)] σ none q := by
  refine kf_Ct.of hty.1 (lv := [(0, .ref (kf_ad G v0))]) (by decide +kernel) rfl (Nat.le_of_ble_eq_true rfl) (fun X E => ?_)
  unfold f_X8_cut at h
  refine wa_aload_n 0 rfl E d_X8_cut_0 ?_
  refine wa_iconst 0 ic_0 E d_X8_cut_1 ?_
  obtain ⟨σ_1, eσ_1, h⟩ := kf_lte h
  refine wa_putI fl_X8_54 fp_8_6 k_v0 rfl (by decide) rfl rfl E d_X8_cut_2 eσ_1 ?_
  refine wa_aload_n 0 rfl E d_X8_cut_5 ?_
  refine wa_iconst 2 ic_2 E d_X8_cut_6 ?_
  obtain ⟨σ_2, eσ_2, h⟩ := kf_lte h
  refine wa_putI fl_X8_57 fp_8_7 k_v0 rfl (by decide) rfl rfl E d_X8_cut_7 eσ_2 ?_
  refine wa_iconst 0 ic_0 E d_X8_cut_10 ?_
  refine wa_istore_n (lv' := [(1, .int 0), (0, .ref (kf_ad G v0))]) rfl (by decide) rfl E d_X8_cut_11 ?_
  refine wa_sub [1, 0] rfl ?_
  exact b_X8_cut_12 E hty kf_F v0 0 k_v0 σ_2 h
/-! X8_kindAt -/
theorem d_X8_kindAt_0 : kf_dq cX8_kindAt 0 1 1 (.iload_n 1) := ⟨by decide +kernel, rfl⟩
theorem d_X8_kindAt_1 : kf_dj cX8_kindAt 1 4 22 (.ifCond .lt) := ⟨21, by decide +kernel, rfl, by decide⟩
theorem d_X8_kindAt_4 : kf_dq cX8_kindAt 4 5 1 (.iload_n 1) := ⟨by decide +kernel, rfl⟩
theorem d_X8_kindAt_5 : kf_dq cX8_kindAt 5 6 1 (.aload_n 0) := ⟨by decide +kernel, rfl⟩
theorem d_X8_kindAt_6 : kf_dq cX8_kindAt 6 9 3 (.getfield 23) := ⟨by decide +kernel, rfl⟩
theorem d_X8_kindAt_9 : kf_dq cX8_kindAt 9 10 1 (.arraylength) := ⟨by decide +kernel, rfl⟩
theorem d_X8_kindAt_10 : kf_dj cX8_kindAt 10 13 22 (.if_icmp .ge) := ⟨12, by decide +kernel, rfl, by decide⟩
theorem d_X8_kindAt_13 : kf_dq cX8_kindAt 13 14 1 (.aload_n 0) := ⟨by decide +kernel, rfl⟩
theorem d_X8_kindAt_14 : kf_dq cX8_kindAt 14 17 3 (.getfield 23) := ⟨by decide +kernel, rfl⟩
theorem d_X8_kindAt_17 : kf_dq cX8_kindAt 17 18 1 (.iload_n 1) := ⟨by decide +kernel, rfl⟩
theorem d_X8_kindAt_18 : kf_dq cX8_kindAt 18 19 1 (.iaload) := ⟨by decide +kernel, rfl⟩
theorem d_X8_kindAt_19 : kf_dj cX8_kindAt 19 22 23 .goto := ⟨4, by decide +kernel, rfl, by decide⟩
theorem d_X8_kindAt_22 : kf_dq cX8_kindAt 22 23 1 (.iconst 1) := ⟨by decide +kernel, rfl⟩
theorem d_X8_kindAt_23 : kf_dq cX8_kindAt 23 24 1 (.ireturn) := ⟨by decide +kernel, rfl⟩
def f_X8_kindAt (v0 : Nat) (v1 : Int32) (σ : kf_St) : Option (Int32 × kf_St) :=
  if v1 < 0 then
    some (1, σ)
  else
    if (nI (kf_ln (kf_rf v0 3))) ≤ v1 then
      some (1, σ)
    else
      if kf_ix v1 (kf_ln (kf_rf v0 3)) = true then
      some ((σ.1 (kf_rf v0 3) (Int32.toNatClampNeg v1)), σ)
      else none
set_option maxRecDepth 100000 in
set_option maxHeartbeats 4000000 in
theorem c_X8_kindAt {G : kf_G} (hty : kf_wt G) (v0 : Nat) (v1 : Int32) (k_v0 : kf_kd G v0 = 9) (σ : kf_St) {q : (Int32 × kf_St)} (h : f_X8_kindAt v0 v1 σ = some q) : kf_Ct (1) yX8_kindAt cX8_kindAt 2 (some .int) G [.ref (kf_ad G v0), .int v1] σ (some (.int q.1)) q.2 := by
  refine kf_Ct.of hty.1 (lv := [(0, .ref (kf_ad G v0)), (1, .int v1)]) (by decide +kernel) rfl (Nat.le_of_ble_eq_true rfl) (fun X E => ?_)
  unfold f_X8_kindAt at h
  refine wa_iload_n 1 rfl E d_X8_kindAt_0 ?_
  refine wa_if_lt E d_X8_kindAt_1 (fun c_1 => ?_) (fun c_1 => ?_)
  · replace h := kf_ift c_1 h
    refine wa_iconst 1 ic_1 E d_X8_kindAt_22 ?_
    cases h
    exact wa_iret E d_X8_kindAt_23
  · replace h := kf_iff c_1 h
    refine wa_iload_n 1 rfl E d_X8_kindAt_4 ?_
    refine wa_aload_n 0 rfl E d_X8_kindAt_5 ?_
    refine wa_getR fl_X8_23 k_v0 rfl E d_X8_kindAt_6 ?_
    refine wa_alen_i (kf_wtf hty 3 49 k_v0 (by decide) rfl) E d_X8_kindAt_9 ?_
    refine wa_icmp_ge E d_X8_kindAt_10 (fun c_2 => ?_) (fun c_2 => ?_)
    · replace h := kf_ift c_2 h
      refine wa_iconst 1 ic_1 E d_X8_kindAt_22 ?_
      cases h
      exact wa_iret E d_X8_kindAt_23
    · replace h := kf_iff c_2 h
      refine wa_aload_n 0 rfl E d_X8_kindAt_13 ?_
      refine wa_getR fl_X8_23 k_v0 rfl E d_X8_kindAt_14 ?_
      refine wa_iload_n 1 rfl E d_X8_kindAt_17 ?_
      obtain ⟨g_3, h⟩ := kf_gd h
      refine wa_iald (kf_wtf hty 3 49 k_v0 (by decide) rfl) g_3 E d_X8_kindAt_18 ?_
      refine wa_goto E d_X8_kindAt_19 ?_
      cases h
      exact wa_iret E d_X8_kindAt_23
/-! X6_fail -/
theorem d_X6_fail_0 : kf_dq cX6_fail 0 1 1 (.aload_n 0) := ⟨by decide +kernel, rfl⟩
theorem d_X6_fail_1 : kf_dq cX6_fail 1 4 3 (.getfield 43) := ⟨by decide +kernel, rfl⟩
theorem d_X6_fail_4 : kf_dj cX6_fail 4 7 12 (.ifCond .ne) := ⟨8, by decide +kernel, rfl, by decide⟩
theorem d_X6_fail_7 : kf_dq cX6_fail 7 8 1 (.aload_n 0) := ⟨by decide +kernel, rfl⟩
theorem d_X6_fail_8 : kf_dq cX6_fail 8 9 1 (.iload_n 1) := ⟨by decide +kernel, rfl⟩
theorem d_X6_fail_9 : kf_dq cX6_fail 9 12 3 (.putfield 43) := ⟨by decide +kernel, rfl⟩
theorem d_X6_fail_12 : kf_dq cX6_fail 12 13 1 (.return_) := ⟨by decide +kernel, rfl⟩
def f_X6_fail (v0 : Nat) (v1 : Int32) (σ : kf_St) : Option kf_St :=
  if (σ.1 v0 0) = 0 then
    kf_lt (kf_wi σ v0 0 v1) fun σ_2 =>
    some σ_2
  else
    some σ
set_option maxRecDepth 100000 in
set_option maxHeartbeats 4000000 in
theorem c_X6_fail {G : kf_G} (hty : kf_wt G) (v0 : Nat) (v1 : Int32) (k_v0 : kf_kd G v0 = 7) (σ : kf_St) {q : kf_St} (h : f_X6_fail v0 v1 σ = some q) : kf_Ct (1) yX6_fail cX6_fail 2 none G [.ref (kf_ad G v0), .int v1] σ none q := by
  refine kf_Ct.of hty.1 (lv := [(0, .ref (kf_ad G v0)), (1, .int v1)]) (by decide +kernel) rfl (Nat.le_of_ble_eq_true rfl) (fun X E => ?_)
  unfold f_X6_fail at h
  refine wa_aload_n 0 rfl E d_X6_fail_0 ?_
  refine wa_getI fl_X6_43 k_v0 rfl E d_X6_fail_1 ?_
  refine wa_if_ne E d_X6_fail_4 (fun c_1 => ?_) (fun c_1 => ?_)
  · replace h := kf_iff c_1 h
    cases h
    exact wa_vret E d_X6_fail_12
  · replace h := kf_ift c_1 h
    refine wa_aload_n 0 rfl E d_X6_fail_7 ?_
    refine wa_iload_n 1 rfl E d_X6_fail_8 ?_
    obtain ⟨σ_2, eσ_2, h⟩ := kf_lte h
    refine wa_putI fl_X6_43 fp_6_0 k_v0 rfl (by decide) rfl rfl E d_X6_fail_9 eσ_2 ?_
    cases h
    exact wa_vret E d_X6_fail_12
/-! X6_take -/
theorem d_X6_take_0 : kf_dq cX6_take 0 1 1 (.aload_n 0) := ⟨by decide +kernel, rfl⟩
theorem d_X6_take_1 : kf_dq cX6_take 1 4 3 (.getfield 43) := ⟨by decide +kernel, rfl⟩
theorem d_X6_take_4 : kf_dj cX6_take 4 7 8 (.ifCond .eq) := ⟨4, by decide +kernel, rfl, by decide⟩
theorem d_X6_take_7 : kf_dq cX6_take 7 8 1 (.return_) := ⟨by decide +kernel, rfl⟩
theorem d_X6_take_8 : kf_dq cX6_take 8 9 1 (.aload_n 0) := ⟨by decide +kernel, rfl⟩
theorem d_X6_take_9 : kf_dq cX6_take 9 12 3 (.getfield 40) := ⟨by decide +kernel, rfl⟩
theorem d_X6_take_12 : kf_dq cX6_take 12 13 1 (.iload_n 1) := ⟨by decide +kernel, rfl⟩
theorem d_X6_take_13 : kf_dj cX6_take 13 16 24 (.if_icmp .eq) := ⟨11, by decide +kernel, rfl, by decide⟩
theorem d_X6_take_16 : kf_dq cX6_take 16 17 1 (.aload_n 0) := ⟨by decide +kernel, rfl⟩
theorem d_X6_take_17 : kf_dq cX6_take 17 18 1 (.iconst 1) := ⟨by decide +kernel, rfl⟩
theorem d_X6_take_18 : kf_dq cX6_take 18 21 3 (.putfield 43) := ⟨by decide +kernel, rfl⟩
theorem d_X6_take_21 : kf_dj cX6_take 21 24 94 .goto := ⟨73, by decide +kernel, rfl, by decide⟩
theorem d_X6_take_24 : kf_dq cX6_take 24 25 1 (.aload_n 0) := ⟨by decide +kernel, rfl⟩
theorem d_X6_take_25 : kf_dq cX6_take 25 28 3 (.getfield 33) := ⟨by decide +kernel, rfl⟩
theorem d_X6_take_28 : kf_dq cX6_take 28 31 3 (.sipush 400) := ⟨by decide +kernel, rfl⟩
theorem d_X6_take_31 : kf_dj cX6_take 31 34 42 (.if_icmp .lt) := ⟨11, by decide +kernel, rfl, by decide⟩
theorem d_X6_take_34 : kf_dq cX6_take 34 35 1 (.aload_n 0) := ⟨by decide +kernel, rfl⟩
theorem d_X6_take_35 : kf_dq cX6_take 35 36 1 (.iconst 2) := ⟨by decide +kernel, rfl⟩
theorem d_X6_take_36 : kf_dq cX6_take 36 39 3 (.putfield 43) := ⟨by decide +kernel, rfl⟩
theorem d_X6_take_39 : kf_dj cX6_take 39 42 94 .goto := ⟨55, by decide +kernel, rfl, by decide⟩
theorem d_X6_take_42 : kf_dq cX6_take 42 43 1 (.aload_n 0) := ⟨by decide +kernel, rfl⟩
theorem d_X6_take_43 : kf_dq cX6_take 43 44 1 (.dup) := ⟨by decide +kernel, rfl⟩
theorem d_X6_take_44 : kf_dq cX6_take 44 47 3 (.getfield 33) := ⟨by decide +kernel, rfl⟩
theorem d_X6_take_47 : kf_dq cX6_take 47 48 1 (.iconst 1) := ⟨by decide +kernel, rfl⟩
theorem d_X6_take_48 : kf_dq cX6_take 48 49 1 (.iadd) := ⟨by decide +kernel, rfl⟩
theorem d_X6_take_49 : kf_dq cX6_take 49 52 3 (.putfield 33) := ⟨by decide +kernel, rfl⟩
theorem d_X6_take_52 : kf_dq cX6_take 52 53 1 (.aload_n 0) := ⟨by decide +kernel, rfl⟩
theorem d_X6_take_53 : kf_dq cX6_take 53 54 1 (.aload_n 0) := ⟨by decide +kernel, rfl⟩
theorem d_X6_take_54 : kf_dq cX6_take 54 57 3 (.getfield 33) := ⟨by decide +kernel, rfl⟩
theorem d_X6_take_57 : kf_dj cX6_take 57 60 90 (.ifCond .lt) := ⟨33, by decide +kernel, rfl, by decide⟩
theorem d_X6_take_60 : kf_dq cX6_take 60 61 1 (.aload_n 0) := ⟨by decide +kernel, rfl⟩
theorem d_X6_take_61 : kf_dq cX6_take 61 64 3 (.getfield 33) := ⟨by decide +kernel, rfl⟩
theorem d_X6_take_64 : kf_dq cX6_take 64 65 1 (.aload_n 0) := ⟨by decide +kernel, rfl⟩
theorem d_X6_take_65 : kf_dq cX6_take 65 68 3 (.getfield 9) := ⟨by decide +kernel, rfl⟩
theorem d_X6_take_68 : kf_dq cX6_take 68 71 3 (.getfield 58) := ⟨by decide +kernel, rfl⟩
theorem d_X6_take_71 : kf_dq cX6_take 71 72 1 (.arraylength) := ⟨by decide +kernel, rfl⟩
theorem d_X6_take_72 : kf_dj cX6_take 72 75 90 (.if_icmp .ge) := ⟨18, by decide +kernel, rfl, by decide⟩
theorem d_X6_take_75 : kf_dq cX6_take 75 76 1 (.aload_n 0) := ⟨by decide +kernel, rfl⟩
theorem d_X6_take_76 : kf_dq cX6_take 76 79 3 (.getfield 9) := ⟨by decide +kernel, rfl⟩
theorem d_X6_take_79 : kf_dq cX6_take 79 82 3 (.getfield 58) := ⟨by decide +kernel, rfl⟩
theorem d_X6_take_82 : kf_dq cX6_take 82 83 1 (.aload_n 0) := ⟨by decide +kernel, rfl⟩
theorem d_X6_take_83 : kf_dq cX6_take 83 86 3 (.getfield 33) := ⟨by decide +kernel, rfl⟩
theorem d_X6_take_86 : kf_dq cX6_take 86 87 1 (.iaload) := ⟨by decide +kernel, rfl⟩
theorem d_X6_take_87 : kf_dj cX6_take 87 90 91 .goto := ⟨4, by decide +kernel, rfl, by decide⟩
theorem d_X6_take_90 : kf_dq cX6_take 90 91 1 (.iconst 1) := ⟨by decide +kernel, rfl⟩
theorem d_X6_take_91 : kf_dq cX6_take 91 94 3 (.putfield 40) := ⟨by decide +kernel, rfl⟩
theorem d_X6_take_94 : kf_dq cX6_take 94 95 1 (.return_) := ⟨by decide +kernel, rfl⟩
def f_X6_take_91 (s0 : Nat) (s1 : Int32) (σ : kf_St) : Option kf_St :=
  kf_lt (kf_wi σ s0 5 s1) fun σ_1 =>
  some σ_1
set_option maxRecDepth 100000 in
set_option maxHeartbeats 4000000 in
theorem b_X6_take_91 {X : kf_X} {G : kf_G} {q : kf_St} (E : kf_ok X G cX6_take RX6 2 none (1)) (hty : kf_wt G) (s0 : Nat) (s1 : Int32) (k_s0 : kf_kd G s0 = 7) (σ : kf_St) (h : f_X6_take_91 s0 s1 σ = some q) : kf_WA X G 2 (kf_Q X G none q) 91 [] [.int s1, .ref (kf_ad G s0)] σ := by
  unfold f_X6_take_91 at h
  obtain ⟨σ_1, eσ_1, h⟩ := kf_lte h
  refine wa_putI fl_X6_40 fp_6_5 k_s0 rfl (by decide) rfl rfl E d_X6_take_91 eσ_1 ?_
  cases h
  exact wa_vret E d_X6_take_94
def f_X6_take_90 (s0 : Nat) (σ : kf_St) : Option kf_St :=
  f_X6_take_91 s0 1 σ
set_option maxRecDepth 100000 in
set_option maxHeartbeats 4000000 in
theorem b_X6_take_90 {X : kf_X} {G : kf_G} {q : kf_St} (E : kf_ok X G cX6_take RX6 2 none (1)) (hty : kf_wt G) (s0 : Nat) (k_s0 : kf_kd G s0 = 7) (σ : kf_St) (h : f_X6_take_90 s0 σ = some q) : kf_WA X G 2 (kf_Q X G none q) 90 [] [.ref (kf_ad G s0)] σ := by
  unfold f_X6_take_90 at h
  refine wa_iconst 1 ic_1 E d_X6_take_90 ?_
  exact b_X6_take_91 E hty s0 1 k_s0 σ h
def f_X6_take (v0 : Nat) (v1 : Int32) (σ : kf_St) : Option kf_St :=
  if (σ.1 v0 0) = 0 then
    if (σ.1 v0 5) = v1 then
      if (σ.1 v0 4) < 400 then
        kf_lt (kf_wi σ v0 4 ((σ.1 v0 4) + 1)) fun σ_4 =>
        if (σ_4.1 v0 4) < 0 then
          f_X6_take_90 v0 σ_4
        else
          if (nI (kf_ln (kf_rf (kf_rf v0 2) 3))) ≤ (σ_4.1 v0 4) then
            f_X6_take_90 v0 σ_4
          else
            if kf_ix (σ_4.1 v0 4) (kf_ln (kf_rf (kf_rf v0 2) 3)) = true then
            f_X6_take_91 v0 (σ_4.1 (kf_rf (kf_rf v0 2) 3) (Int32.toNatClampNeg (σ_4.1 v0 4))) σ_4
            else none
      else
        kf_lt (kf_wi σ v0 0 2) fun σ_8 =>
        some σ_8
    else
      kf_lt (kf_wi σ v0 0 1) fun σ_9 =>
      some σ_9
  else
    some σ
set_option maxRecDepth 100000 in
set_option maxHeartbeats 4000000 in
theorem c_X6_take {G : kf_G} (hty : kf_wt G) (v0 : Nat) (v1 : Int32) (k_v0 : kf_kd G v0 = 7) (σ : kf_St) {q : kf_St} (h : f_X6_take v0 v1 σ = some q) : kf_Ct (1) yX6_take cX6_take 2 none G [.ref (kf_ad G v0), .int v1] σ none q := by
  refine kf_Ct.of hty.1 (lv := [(0, .ref (kf_ad G v0)), (1, .int v1)]) (by decide +kernel) rfl (Nat.le_of_ble_eq_true rfl) (fun X E => ?_)
  unfold f_X6_take at h
  refine wa_aload_n 0 rfl E d_X6_take_0 ?_
  refine wa_getI fl_X6_43 k_v0 rfl E d_X6_take_1 ?_
  refine wa_if_eq E d_X6_take_4 (fun c_1 => ?_) (fun c_1 => ?_)
  · replace h := kf_ift c_1 h
    refine wa_aload_n 0 rfl E d_X6_take_8 ?_
    refine wa_getI fl_X6_40 k_v0 rfl E d_X6_take_9 ?_
    refine wa_iload_n 1 rfl E d_X6_take_12 ?_
    refine wa_icmp_eq E d_X6_take_13 (fun c_2 => ?_) (fun c_2 => ?_)
    · replace h := kf_ift c_2 h
      refine wa_aload_n 0 rfl E d_X6_take_24 ?_
      refine wa_getI fl_X6_33 k_v0 rfl E d_X6_take_25 ?_
      refine wa_sipush 400 sp_400 E d_X6_take_28 ?_
      refine wa_icmp_lt E d_X6_take_31 (fun c_3 => ?_) (fun c_3 => ?_)
      · replace h := kf_ift c_3 h
        refine wa_aload_n 0 rfl E d_X6_take_42 ?_
        refine wa_dup rfl E d_X6_take_43 ?_
        refine wa_getI fl_X6_33 k_v0 rfl E d_X6_take_44 ?_
        refine wa_iconst 1 ic_1 E d_X6_take_47 ?_
        refine wa_iadd E d_X6_take_48 ?_
        obtain ⟨σ_4, eσ_4, h⟩ := kf_lte h
        refine wa_putI fl_X6_33 fp_6_4 k_v0 rfl (by decide) rfl rfl E d_X6_take_49 eσ_4 ?_
        refine wa_aload_n 0 rfl E d_X6_take_52 ?_
        refine wa_aload_n 0 rfl E d_X6_take_53 ?_
        refine wa_getI fl_X6_33 k_v0 rfl E d_X6_take_54 ?_
        refine wa_if_lt E d_X6_take_57 (fun c_5 => ?_) (fun c_5 => ?_)
        · replace h := kf_ift c_5 h
          refine wa_sub [] rfl ?_
          exact b_X6_take_90 E hty v0 k_v0 σ_4 h
        · replace h := kf_iff c_5 h
          refine wa_aload_n 0 rfl E d_X6_take_60 ?_
          refine wa_getI fl_X6_33 k_v0 rfl E d_X6_take_61 ?_
          refine wa_aload_n 0 rfl E d_X6_take_64 ?_
          refine wa_getR fl_X6_9 k_v0 rfl E d_X6_take_65 ?_
          refine wa_getN (kf_wtf hty 2 8 k_v0 (by decide) rfl) in_8 E d_X6_take_68 ?_
          refine wa_alen_i (kf_wtf hty 3 49 (kf_wtf hty 2 8 k_v0 (by decide) rfl) (by decide) rfl) E d_X6_take_71 ?_
          refine wa_icmp_ge E d_X6_take_72 (fun c_6 => ?_) (fun c_6 => ?_)
          · replace h := kf_ift c_6 h
            refine wa_sub [] rfl ?_
            exact b_X6_take_90 E hty v0 k_v0 σ_4 h
          · replace h := kf_iff c_6 h
            refine wa_aload_n 0 rfl E d_X6_take_75 ?_
            refine wa_getR fl_X6_9 k_v0 rfl E d_X6_take_76 ?_
            refine wa_getN (kf_wtf hty 2 8 k_v0 (by decide) rfl) in_8 E d_X6_take_79 ?_
            refine wa_aload_n 0 rfl E d_X6_take_82 ?_
            refine wa_getI fl_X6_33 k_v0 rfl E d_X6_take_83 ?_
            obtain ⟨g_7, h⟩ := kf_gd h
            refine wa_iald (kf_wtf hty 3 49 (kf_wtf hty 2 8 k_v0 (by decide) rfl) (by decide) rfl) g_7 E d_X6_take_86 ?_
            refine wa_goto E d_X6_take_87 ?_
            refine wa_sub [] rfl ?_
            exact b_X6_take_91 E hty v0 (σ_4.1 (kf_rf (kf_rf v0 2) 3) (Int32.toNatClampNeg (σ_4.1 v0 4))) k_v0 σ_4 h
      · replace h := kf_iff c_3 h
        refine wa_aload_n 0 rfl E d_X6_take_34 ?_
        refine wa_iconst 2 ic_2 E d_X6_take_35 ?_
        obtain ⟨σ_8, eσ_8, h⟩ := kf_lte h
        refine wa_putI fl_X6_43 fp_6_0 k_v0 rfl (by decide) rfl rfl E d_X6_take_36 eσ_8 ?_
        refine wa_goto E d_X6_take_39 ?_
        cases h
        exact wa_vret E d_X6_take_94
    · replace h := kf_iff c_2 h
      refine wa_aload_n 0 rfl E d_X6_take_16 ?_
      refine wa_iconst 1 ic_1 E d_X6_take_17 ?_
      obtain ⟨σ_9, eσ_9, h⟩ := kf_lte h
      refine wa_putI fl_X6_43 fp_6_0 k_v0 rfl (by decide) rfl rfl E d_X6_take_18 eσ_9 ?_
      refine wa_goto E d_X6_take_21 ?_
      cases h
      exact wa_vret E d_X6_take_94
  · replace h := kf_iff c_1 h
    cases h
    exact wa_vret E d_X6_take_7
/-! X8_valueAt -/
theorem d_X8_valueAt_0 : kf_dq cX8_valueAt 0 1 1 (.iload_n 1) := ⟨by decide +kernel, rfl⟩
theorem d_X8_valueAt_1 : kf_dj cX8_valueAt 1 4 22 (.ifCond .lt) := ⟨21, by decide +kernel, rfl, by decide⟩
theorem d_X8_valueAt_4 : kf_dq cX8_valueAt 4 5 1 (.iload_n 1) := ⟨by decide +kernel, rfl⟩
theorem d_X8_valueAt_5 : kf_dq cX8_valueAt 5 6 1 (.aload_n 0) := ⟨by decide +kernel, rfl⟩
theorem d_X8_valueAt_6 : kf_dq cX8_valueAt 6 9 3 (.getfield 30) := ⟨by decide +kernel, rfl⟩
theorem d_X8_valueAt_9 : kf_dq cX8_valueAt 9 10 1 (.arraylength) := ⟨by decide +kernel, rfl⟩
theorem d_X8_valueAt_10 : kf_dj cX8_valueAt 10 13 22 (.if_icmp .ge) := ⟨12, by decide +kernel, rfl, by decide⟩
theorem d_X8_valueAt_13 : kf_dq cX8_valueAt 13 14 1 (.aload_n 0) := ⟨by decide +kernel, rfl⟩
theorem d_X8_valueAt_14 : kf_dq cX8_valueAt 14 17 3 (.getfield 30) := ⟨by decide +kernel, rfl⟩
theorem d_X8_valueAt_17 : kf_dq cX8_valueAt 17 18 1 (.iload_n 1) := ⟨by decide +kernel, rfl⟩
theorem d_X8_valueAt_18 : kf_dq cX8_valueAt 18 19 1 (.laload) := ⟨by decide +kernel, rfl⟩
theorem d_X8_valueAt_19 : kf_dj cX8_valueAt 19 22 23 .goto := ⟨4, by decide +kernel, rfl, by decide⟩
theorem d_X8_valueAt_22 : kf_dq cX8_valueAt 22 23 1 (.lconst 0) := ⟨by decide +kernel, rfl⟩
theorem d_X8_valueAt_23 : kf_dq cX8_valueAt 23 24 1 (.lreturn) := ⟨by decide +kernel, rfl⟩
def f_X8_valueAt (v0 : Nat) (v1 : Int32) (σ : kf_St) : Option (Int64 × kf_St) :=
  if v1 < 0 then
    some ((0 : Int64), σ)
  else
    if (nI (kf_ln (kf_rf v0 5))) ≤ v1 then
      some ((0 : Int64), σ)
    else
      if kf_ix v1 (kf_ln (kf_rf v0 5)) = true then
      some ((σ.2 (kf_rf v0 5) (Int32.toNatClampNeg v1)), σ)
      else none
set_option maxRecDepth 100000 in
set_option maxHeartbeats 4000000 in
theorem c_X8_valueAt {G : kf_G} (hty : kf_wt G) (v0 : Nat) (v1 : Int32) (k_v0 : kf_kd G v0 = 9) (σ : kf_St) {q : (Int64 × kf_St)} (h : f_X8_valueAt v0 v1 σ = some q) : kf_Ct (1) yX8_valueAt cX8_valueAt 2 (some .long) G [.ref (kf_ad G v0), .int v1] σ (some (.long q.1)) q.2 := by
  refine kf_Ct.of hty.1 (lv := [(0, .ref (kf_ad G v0)), (1, .int v1)]) (by decide +kernel) rfl (Nat.le_of_ble_eq_true rfl) (fun X E => ?_)
  unfold f_X8_valueAt at h
  refine wa_iload_n 1 rfl E d_X8_valueAt_0 ?_
  refine wa_if_lt E d_X8_valueAt_1 (fun c_1 => ?_) (fun c_1 => ?_)
  · replace h := kf_ift c_1 h
    refine wa_lconst 0 lc_0 E d_X8_valueAt_22 ?_
    cases h
    exact wa_lret E d_X8_valueAt_23
  · replace h := kf_iff c_1 h
    refine wa_iload_n 1 rfl E d_X8_valueAt_4 ?_
    refine wa_aload_n 0 rfl E d_X8_valueAt_5 ?_
    refine wa_getR fl_X8_30 k_v0 rfl E d_X8_valueAt_6 ?_
    refine wa_alen_l (kf_wtf hty 5 50 k_v0 (by decide) rfl) E d_X8_valueAt_9 ?_
    refine wa_icmp_ge E d_X8_valueAt_10 (fun c_2 => ?_) (fun c_2 => ?_)
    · replace h := kf_ift c_2 h
      refine wa_lconst 0 lc_0 E d_X8_valueAt_22 ?_
      cases h
      exact wa_lret E d_X8_valueAt_23
    · replace h := kf_iff c_2 h
      refine wa_aload_n 0 rfl E d_X8_valueAt_13 ?_
      refine wa_getR fl_X8_30 k_v0 rfl E d_X8_valueAt_14 ?_
      refine wa_iload_n 1 rfl E d_X8_valueAt_17 ?_
      obtain ⟨g_3, h⟩ := kf_gd h
      refine wa_lald (kf_wtf hty 5 50 k_v0 (by decide) rfl) g_3 E d_X8_valueAt_18 ?_
      refine wa_goto E d_X8_valueAt_19 ?_
      cases h
      exact wa_lret E d_X8_valueAt_23
/-! X10_rowOf -/
theorem d_X10_rowOf_0 : kf_dq cX10_rowOf 0 1 1 (.iconst 0) := ⟨by decide +kernel, rfl⟩
theorem d_X10_rowOf_1 : kf_dq cX10_rowOf 1 3 2 (.istore 4) := ⟨by decide +kernel, rfl⟩
theorem d_X10_rowOf_3 : kf_dq cX10_rowOf 3 5 2 (.iload 4) := ⟨by decide +kernel, rfl⟩
theorem d_X10_rowOf_5 : kf_dq cX10_rowOf 5 6 1 (.iload_n 3) := ⟨by decide +kernel, rfl⟩
theorem d_X10_rowOf_6 : kf_dj cX10_rowOf 6 9 34 (.if_icmp .ge) := ⟨28, by decide +kernel, rfl, by decide⟩
theorem d_X10_rowOf_9 : kf_dq cX10_rowOf 9 11 2 (.iload 4) := ⟨by decide +kernel, rfl⟩
theorem d_X10_rowOf_11 : kf_dq cX10_rowOf 11 12 1 (.aload_n 2) := ⟨by decide +kernel, rfl⟩
theorem d_X10_rowOf_12 : kf_dq cX10_rowOf 12 13 1 (.arraylength) := ⟨by decide +kernel, rfl⟩
theorem d_X10_rowOf_13 : kf_dj cX10_rowOf 13 16 34 (.if_icmp .ge) := ⟨21, by decide +kernel, rfl, by decide⟩
theorem d_X10_rowOf_16 : kf_dq cX10_rowOf 16 17 1 (.aload_n 2) := ⟨by decide +kernel, rfl⟩
theorem d_X10_rowOf_17 : kf_dq cX10_rowOf 17 19 2 (.iload 4) := ⟨by decide +kernel, rfl⟩
theorem d_X10_rowOf_19 : kf_dq cX10_rowOf 19 20 1 (.laload) := ⟨by decide +kernel, rfl⟩
theorem d_X10_rowOf_20 : kf_dq cX10_rowOf 20 21 1 (.lload_n 0) := ⟨by decide +kernel, rfl⟩
theorem d_X10_rowOf_21 : kf_dq cX10_rowOf 21 22 1 (.lcmp) := ⟨by decide +kernel, rfl⟩
theorem d_X10_rowOf_22 : kf_dj cX10_rowOf 22 25 28 (.ifCond .ne) := ⟨6, by decide +kernel, rfl, by decide⟩
theorem d_X10_rowOf_25 : kf_dq cX10_rowOf 25 27 2 (.iload 4) := ⟨by decide +kernel, rfl⟩
theorem d_X10_rowOf_27 : kf_dq cX10_rowOf 27 28 1 (.ireturn) := ⟨by decide +kernel, rfl⟩
theorem d_X10_rowOf_28 : kf_dq cX10_rowOf 28 31 3 (.iinc 4 1) := ⟨by decide +kernel, rfl⟩
theorem d_X10_rowOf_31 : kf_dj cX10_rowOf 31 34 3 .goto := ⟨(-28), by decide +kernel, rfl, by decide⟩
theorem d_X10_rowOf_34 : kf_dq cX10_rowOf 34 35 1 (.iconst (-1)) := ⟨by decide +kernel, rfl⟩
theorem d_X10_rowOf_35 : kf_dq cX10_rowOf 35 36 1 (.ireturn) := ⟨by decide +kernel, rfl⟩
def f_X10_rowOf_3_s (rec3 : Int64 → Nat → Int32 → Int32 → kf_St → Option (Int32 × kf_St)) (v0 : Int64) (v2 : Nat) (v3 : Int32) (v4 : Int32) (σ : kf_St) : Option (Int32 × kf_St) :=
  if v3 ≤ v4 then
    some ((-1), σ)
  else
    if (nI (kf_ln v2)) ≤ v4 then
      some ((-1), σ)
    else
      if kf_ix v4 (kf_ln v2) = true then
      if (lg_cmp (σ.2 v2 (Int32.toNatClampNeg v4)) v0) = 0 then
        some (v4, σ)
      else
        kf_lt (v4 + 1) fun v4_5 =>
        rec3 v0 v2 v3 v4_5 σ
      else none
def f_X10_rowOf_3 : Nat → Int64 → Nat → Int32 → Int32 → kf_St → Option (Int32 × kf_St)
  | 0, _, _, _, _, _ => none
  | n + 1, v0, v2, v3, v4, σ => f_X10_rowOf_3_s (f_X10_rowOf_3 n) v0 v2 v3 v4 σ
set_option maxRecDepth 100000 in
set_option maxHeartbeats 4000000 in
theorem b_X10_rowOf_3_s {X : kf_X} {G : kf_G} (rec3 : Int64 → Nat → Int32 → Int32 → kf_St → Option (Int32 × kf_St)) {q : (Int32 × kf_St)} (E : kf_ok X G cX10_rowOf RX10 5 (some .int) (1)) (hty : kf_wt G) (hrec3 : ∀ (v0 : Int64) (v2 : Nat) (v3 : Int32) (v4 : Int32) (k_v2 : kf_kd G v2 = 51) (σ : kf_St), rec3 v0 v2 v3 v4 σ = some q → kf_WA X G 5 (kf_Q X G (some (.int q.1)) q.2) 3 [(0, .long v0), (2, .ref (kf_ad G v2)), (3, .int v3), (4, .int v4)] [] σ) (v0 : Int64) (v2 : Nat) (v3 : Int32) (v4 : Int32) (k_v2 : kf_kd G v2 = 51) (σ : kf_St) (h : f_X10_rowOf_3_s rec3 v0 v2 v3 v4 σ = some q) : kf_WA X G 5 (kf_Q X G (some (.int q.1)) q.2) 3 [(0, .long v0), (2, .ref (kf_ad G v2)), (3, .int v3), (4, .int v4)] [] σ := by
  unfold f_X10_rowOf_3_s at h
  refine wa_iload 3 rfl E d_X10_rowOf_3 ?_
  refine wa_iload_n 2 rfl E d_X10_rowOf_5 ?_
  refine wa_icmp_ge E d_X10_rowOf_6 (fun c_1 => ?_) (fun c_1 => ?_)
  · replace h := kf_ift c_1 h
    refine wa_iconst (-1) ic_m1 E d_X10_rowOf_34 ?_
    cases h
    exact wa_iret E d_X10_rowOf_35
  · replace h := kf_iff c_1 h
    refine wa_iload 3 rfl E d_X10_rowOf_9 ?_
    refine wa_aload_n 1 rfl E d_X10_rowOf_11 ?_
    refine wa_alen_l k_v2 E d_X10_rowOf_12 ?_
    refine wa_icmp_ge E d_X10_rowOf_13 (fun c_2 => ?_) (fun c_2 => ?_)
    · replace h := kf_ift c_2 h
      refine wa_iconst (-1) ic_m1 E d_X10_rowOf_34 ?_
      cases h
      exact wa_iret E d_X10_rowOf_35
    · replace h := kf_iff c_2 h
      refine wa_aload_n 1 rfl E d_X10_rowOf_16 ?_
      refine wa_iload 3 rfl E d_X10_rowOf_17 ?_
      obtain ⟨g_3, h⟩ := kf_gd h
      refine wa_lald k_v2 g_3 E d_X10_rowOf_19 ?_
      refine wa_lload_n 0 rfl E d_X10_rowOf_20 ?_
      refine wa_lcmp E d_X10_rowOf_21 ?_
      refine wa_if_ne E d_X10_rowOf_22 (fun c_4 => ?_) (fun c_4 => ?_)
      · replace h := kf_iff c_4 h
        obtain ⟨v4_5, ev4_5, h⟩ := kf_lte h
        refine wa_iinc (lv' := [(4, .int v4_5), (0, .long v0), (2, .ref (kf_ad G v2)), (3, .int v3)]) v4_5 3 rfl (kf_inc ic_1 ev4_5) (by decide) rfl E d_X10_rowOf_28 ?_
        refine wa_goto E d_X10_rowOf_31 ?_
        refine wa_sub [1, 2, 3, 0] rfl ?_
        exact hrec3 v0 v2 v3 v4_5 k_v2 σ h
      · replace h := kf_ift c_4 h
        refine wa_iload 3 rfl E d_X10_rowOf_25 ?_
        cases h
        exact wa_iret E d_X10_rowOf_27
theorem b_X10_rowOf_3 {X : kf_X} {G : kf_G} {q : (Int32 × kf_St)} (E : kf_ok X G cX10_rowOf RX10 5 (some .int) (1)) (hty : kf_wt G) : ∀ (N : Nat) (v0 : Int64) (v2 : Nat) (v3 : Int32) (v4 : Int32) (k_v2 : kf_kd G v2 = 51) (σ : kf_St) (_ : f_X10_rowOf_3 N v0 v2 v3 v4 σ = some q), kf_WA X G 5 (kf_Q X G (some (.int q.1)) q.2) 3 [(0, .long v0), (2, .ref (kf_ad G v2)), (3, .int v3), (4, .int v4)] [] σ
  | 0, _, _, _, _, _, _, h => by cases h
  | N + 1, v0, v2, v3, v4, k_v2, σ, h => b_X10_rowOf_3_s _ E hty (b_X10_rowOf_3 E hty N) v0 v2 v3 v4 k_v2 σ h
def f_X10_rowOf (v0 : Int64) (v2 : Nat) (v3 : Int32) (σ : kf_St) : Option (Int32 × kf_St) :=
  f_X10_rowOf_3 kf_F v0 v2 v3 0 σ
set_option maxRecDepth 100000 in
set_option maxHeartbeats 4000000 in
theorem c_X10_rowOf {G : kf_G} (hty : kf_wt G) (v0 : Int64) (v2 : Nat) (v3 : Int32) (k_v2 : kf_kd G v2 = 51) (σ : kf_St) {q : (Int32 × kf_St)} (h : f_X10_rowOf v0 v2 v3 σ = some q) : kf_Ct (1) yX10_rowOf cX10_rowOf 5 (some .int) G [.long v0, .ref (kf_ad G v2), .int v3] σ (some (.int q.1)) q.2 := by
  refine kf_Ct.of hty.1 (lv := [(0, .long v0), (2, .ref (kf_ad G v2)), (3, .int v3)]) (by decide +kernel) rfl (Nat.le_of_ble_eq_true rfl) (fun X E => ?_)
  unfold f_X10_rowOf at h
  refine wa_iconst 0 ic_0 E d_X10_rowOf_0 ?_
  refine wa_istore (lv' := [(4, .int 0), (0, .long v0), (2, .ref (kf_ad G v2)), (3, .int v3)]) (by decide) rfl E d_X10_rowOf_1 ?_
  refine wa_sub [1, 2, 3, 0] rfl ?_
  exact b_X10_rowOf_3 E hty kf_F v0 v2 v3 0 k_v2 σ h
/-! X8_placeAt -/
theorem d_X8_placeAt_0 : kf_dq cX8_placeAt 0 1 1 (.iload_n 1) := ⟨by decide +kernel, rfl⟩
theorem d_X8_placeAt_1 : kf_dj cX8_placeAt 1 4 22 (.ifCond .lt) := ⟨21, by decide +kernel, rfl, by decide⟩
theorem d_X8_placeAt_4 : kf_dq cX8_placeAt 4 5 1 (.iload_n 1) := ⟨by decide +kernel, rfl⟩
theorem d_X8_placeAt_5 : kf_dq cX8_placeAt 5 6 1 (.aload_n 0) := ⟨by decide +kernel, rfl⟩
theorem d_X8_placeAt_6 : kf_dq cX8_placeAt 6 9 3 (.getfield 27) := ⟨by decide +kernel, rfl⟩
theorem d_X8_placeAt_9 : kf_dq cX8_placeAt 9 10 1 (.arraylength) := ⟨by decide +kernel, rfl⟩
theorem d_X8_placeAt_10 : kf_dj cX8_placeAt 10 13 22 (.if_icmp .ge) := ⟨12, by decide +kernel, rfl, by decide⟩
theorem d_X8_placeAt_13 : kf_dq cX8_placeAt 13 14 1 (.aload_n 0) := ⟨by decide +kernel, rfl⟩
theorem d_X8_placeAt_14 : kf_dq cX8_placeAt 14 17 3 (.getfield 27) := ⟨by decide +kernel, rfl⟩
theorem d_X8_placeAt_17 : kf_dq cX8_placeAt 17 18 1 (.iload_n 1) := ⟨by decide +kernel, rfl⟩
theorem d_X8_placeAt_18 : kf_dq cX8_placeAt 18 19 1 (.iaload) := ⟨by decide +kernel, rfl⟩
theorem d_X8_placeAt_19 : kf_dj cX8_placeAt 19 22 26 .goto := ⟨7, by decide +kernel, rfl, by decide⟩
theorem d_X8_placeAt_22 : kf_dq cX8_placeAt 22 23 1 (.aload_n 0) := ⟨by decide +kernel, rfl⟩
theorem d_X8_placeAt_23 : kf_dq cX8_placeAt 23 26 3 (.getfield 51) := ⟨by decide +kernel, rfl⟩
theorem d_X8_placeAt_26 : kf_dq cX8_placeAt 26 27 1 (.ireturn) := ⟨by decide +kernel, rfl⟩
def f_X8_placeAt_22 (v0 : Nat) (σ : kf_St) : Option (Int32 × kf_St) :=
  some ((σ.1 v0 0), σ)
set_option maxRecDepth 100000 in
set_option maxHeartbeats 4000000 in
theorem b_X8_placeAt_22 {X : kf_X} {G : kf_G} {q : (Int32 × kf_St)} (E : kf_ok X G cX8_placeAt RX8 2 (some .int) (1)) (hty : kf_wt G) (v0 : Nat) (k_v0 : kf_kd G v0 = 9) (σ : kf_St) (h : f_X8_placeAt_22 v0 σ = some q) : kf_WA X G 2 (kf_Q X G (some (.int q.1)) q.2) 22 [(0, .ref (kf_ad G v0))] [] σ := by
  unfold f_X8_placeAt_22 at h
  refine wa_aload_n 0 rfl E d_X8_placeAt_22 ?_
  refine wa_getI fl_X8_51 k_v0 rfl E d_X8_placeAt_23 ?_
  cases h
  exact wa_iret E d_X8_placeAt_26
def f_X8_placeAt (v0 : Nat) (v1 : Int32) (σ : kf_St) : Option (Int32 × kf_St) :=
  if v1 < 0 then
    f_X8_placeAt_22 v0 σ
  else
    if (nI (kf_ln (kf_rf v0 4))) ≤ v1 then
      f_X8_placeAt_22 v0 σ
    else
      if kf_ix v1 (kf_ln (kf_rf v0 4)) = true then
      some ((σ.1 (kf_rf v0 4) (Int32.toNatClampNeg v1)), σ)
      else none
set_option maxRecDepth 100000 in
set_option maxHeartbeats 4000000 in
theorem c_X8_placeAt {G : kf_G} (hty : kf_wt G) (v0 : Nat) (v1 : Int32) (k_v0 : kf_kd G v0 = 9) (σ : kf_St) {q : (Int32 × kf_St)} (h : f_X8_placeAt v0 v1 σ = some q) : kf_Ct (1) yX8_placeAt cX8_placeAt 2 (some .int) G [.ref (kf_ad G v0), .int v1] σ (some (.int q.1)) q.2 := by
  refine kf_Ct.of hty.1 (lv := [(0, .ref (kf_ad G v0)), (1, .int v1)]) (by decide +kernel) rfl (Nat.le_of_ble_eq_true rfl) (fun X E => ?_)
  unfold f_X8_placeAt at h
  refine wa_iload_n 1 rfl E d_X8_placeAt_0 ?_
  refine wa_if_lt E d_X8_placeAt_1 (fun c_1 => ?_) (fun c_1 => ?_)
  · replace h := kf_ift c_1 h
    refine wa_sub [0] rfl ?_
    exact b_X8_placeAt_22 E hty v0 k_v0 σ h
  · replace h := kf_iff c_1 h
    refine wa_iload_n 1 rfl E d_X8_placeAt_4 ?_
    refine wa_aload_n 0 rfl E d_X8_placeAt_5 ?_
    refine wa_getR fl_X8_27 k_v0 rfl E d_X8_placeAt_6 ?_
    refine wa_alen_i (kf_wtf hty 4 49 k_v0 (by decide) rfl) E d_X8_placeAt_9 ?_
    refine wa_icmp_ge E d_X8_placeAt_10 (fun c_2 => ?_) (fun c_2 => ?_)
    · replace h := kf_ift c_2 h
      refine wa_sub [0] rfl ?_
      exact b_X8_placeAt_22 E hty v0 k_v0 σ h
    · replace h := kf_iff c_2 h
      refine wa_aload_n 0 rfl E d_X8_placeAt_13 ?_
      refine wa_getR fl_X8_27 k_v0 rfl E d_X8_placeAt_14 ?_
      refine wa_iload_n 1 rfl E d_X8_placeAt_17 ?_
      obtain ⟨g_3, h⟩ := kf_gd h
      refine wa_iald (kf_wtf hty 4 49 k_v0 (by decide) rfl) g_3 E d_X8_placeAt_18 ?_
      refine wa_goto E d_X8_placeAt_19 ?_
      cases h
      exact wa_iret E d_X8_placeAt_26
/-! X6_noteSlip -/
theorem d_X6_noteSlip_0 : kf_dq cX6_noteSlip 0 1 1 (.aload_n 0) := ⟨by decide +kernel, rfl⟩
theorem d_X6_noteSlip_1 : kf_dq cX6_noteSlip 1 4 3 (.getfield 46) := ⟨by decide +kernel, rfl⟩
theorem d_X6_noteSlip_4 : kf_dj cX6_noteSlip 4 7 27 (.ifCond .ne) := ⟨23, by decide +kernel, rfl, by decide⟩
theorem d_X6_noteSlip_7 : kf_dq cX6_noteSlip 7 8 1 (.aload_n 0) := ⟨by decide +kernel, rfl⟩
theorem d_X6_noteSlip_8 : kf_dq cX6_noteSlip 8 9 1 (.iload_n 1) := ⟨by decide +kernel, rfl⟩
theorem d_X6_noteSlip_9 : kf_dq cX6_noteSlip 9 12 3 (.putfield 46) := ⟨by decide +kernel, rfl⟩
theorem d_X6_noteSlip_12 : kf_dq cX6_noteSlip 12 13 1 (.aload_n 0) := ⟨by decide +kernel, rfl⟩
theorem d_X6_noteSlip_13 : kf_dq cX6_noteSlip 13 14 1 (.aload_n 0) := ⟨by decide +kernel, rfl⟩
theorem d_X6_noteSlip_14 : kf_dq cX6_noteSlip 14 17 3 (.getfield 9) := ⟨by decide +kernel, rfl⟩
theorem d_X6_noteSlip_17 : kf_dq cX6_noteSlip 17 18 1 (.aload_n 0) := ⟨by decide +kernel, rfl⟩
theorem d_X6_noteSlip_18 : kf_dq cX6_noteSlip 18 21 3 (.getfield 33) := ⟨by decide +kernel, rfl⟩
theorem d_X6_noteSlip_21 : kf_dq cX6_noteSlip 21 24 3 (.invokevirtual 55) := ⟨by decide +kernel, rfl⟩
theorem d_X6_noteSlip_24 : kf_dq cX6_noteSlip 24 27 3 (.putfield 49) := ⟨by decide +kernel, rfl⟩
theorem d_X6_noteSlip_27 : kf_dq cX6_noteSlip 27 28 1 (.return_) := ⟨by decide +kernel, rfl⟩
def f_X6_noteSlip (v0 : Nat) (v1 : Int32) (σ : kf_St) : Option kf_St :=
  if (σ.1 v0 6) = 0 then
    kf_lt (kf_wi σ v0 6 v1) fun σ_2 =>
    (f_X8_placeAt (kf_rf v0 2) (σ_2.1 v0 4) σ_2).bind fun q_3 =>
    kf_lt (kf_wi q_3.2 v0 7 q_3.1) fun σ_4 =>
    some σ_4
  else
    some σ
set_option maxRecDepth 100000 in
set_option maxHeartbeats 4000000 in
theorem c_X6_noteSlip {G : kf_G} (hty : kf_wt G) (v0 : Nat) (v1 : Int32) (k_v0 : kf_kd G v0 = 7) (σ : kf_St) {q : kf_St} (h : f_X6_noteSlip v0 v1 σ = some q) : kf_Ct (2) yX6_noteSlip cX6_noteSlip 2 none G [.ref (kf_ad G v0), .int v1] σ none q := by
  refine kf_Ct.of hty.1 (lv := [(0, .ref (kf_ad G v0)), (1, .int v1)]) (by decide +kernel) rfl (Nat.le_of_ble_eq_true rfl) (fun X E => ?_)
  unfold f_X6_noteSlip at h
  refine wa_aload_n 0 rfl E d_X6_noteSlip_0 ?_
  refine wa_getI fl_X6_46 k_v0 rfl E d_X6_noteSlip_1 ?_
  refine wa_if_ne E d_X6_noteSlip_4 (fun c_1 => ?_) (fun c_1 => ?_)
  · replace h := kf_iff c_1 h
    cases h
    exact wa_vret E d_X6_noteSlip_27
  · replace h := kf_ift c_1 h
    refine wa_aload_n 0 rfl E d_X6_noteSlip_7 ?_
    refine wa_iload_n 1 rfl E d_X6_noteSlip_8 ?_
    obtain ⟨σ_2, eσ_2, h⟩ := kf_lte h
    refine wa_putI fl_X6_46 fp_6_6 k_v0 rfl (by decide) rfl rfl E d_X6_noteSlip_9 eσ_2 ?_
    refine wa_aload_n 0 rfl E d_X6_noteSlip_12 ?_
    refine wa_aload_n 0 rfl E d_X6_noteSlip_13 ?_
    refine wa_getR fl_X6_9 k_v0 rfl E d_X6_noteSlip_14 ?_
    refine wa_aload_n 0 rfl E d_X6_noteSlip_17 ?_
    refine wa_getI fl_X6_33 k_v0 rfl E d_X6_noteSlip_18 ?_
    obtain ⟨q_3, hq_3, h⟩ := kf_bd h
    refine wa_callV (st2 := [.int q_3.1, .ref (kf_ad G v0)]) (c_X8_placeAt hty (kf_rf v0 2) (σ_2.1 v0 4) (kf_wtf hty 2 8 k_v0 (by decide) rfl) σ_2 hq_3) mv_X8_placeAt ml_X6_55 (kf_wtf hty 2 8 k_v0 (by decide) rfl) rfl (Nat.le_of_ble_eq_true rfl) rfl (Nat.le_of_ble_eq_true rfl) E d_X6_noteSlip_21 rfl ?_
    obtain ⟨σ_4, eσ_4, h⟩ := kf_lte h
    refine wa_putI fl_X6_49 fp_6_7 k_v0 rfl (by decide) rfl rfl E d_X6_noteSlip_24 eσ_4 ?_
    cases h
    exact wa_vret E d_X6_noteSlip_27
/-! X6_readNewName -/
theorem d_X6_readNewName_0 : kf_dq cX6_readNewName 0 1 1 (.aload_n 0) := ⟨by decide +kernel, rfl⟩
theorem d_X6_readNewName_1 : kf_dq cX6_readNewName 1 4 3 (.getfield 9) := ⟨by decide +kernel, rfl⟩
theorem d_X6_readNewName_4 : kf_dq cX6_readNewName 4 5 1 (.aload_n 0) := ⟨by decide +kernel, rfl⟩
theorem d_X6_readNewName_5 : kf_dq cX6_readNewName 5 8 3 (.getfield 33) := ⟨by decide +kernel, rfl⟩
theorem d_X6_readNewName_8 : kf_dq cX6_readNewName 8 11 3 (.invokevirtual 154) := ⟨by decide +kernel, rfl⟩
theorem d_X6_readNewName_11 : kf_dq cX6_readNewName 11 12 1 (.lstore_n 1) := ⟨by decide +kernel, rfl⟩
theorem d_X6_readNewName_12 : kf_dq cX6_readNewName 12 13 1 (.lload_n 1) := ⟨by decide +kernel, rfl⟩
theorem d_X6_readNewName_13 : kf_dq cX6_readNewName 13 14 1 (.aload_n 0) := ⟨by decide +kernel, rfl⟩
theorem d_X6_readNewName_14 : kf_dq cX6_readNewName 14 17 3 (.getfield 15) := ⟨by decide +kernel, rfl⟩
theorem d_X6_readNewName_17 : kf_dq cX6_readNewName 17 20 3 (.getfield 107) := ⟨by decide +kernel, rfl⟩
theorem d_X6_readNewName_20 : kf_dq cX6_readNewName 20 21 1 (.aload_n 0) := ⟨by decide +kernel, rfl⟩
theorem d_X6_readNewName_21 : kf_dq cX6_readNewName 21 24 3 (.getfield 15) := ⟨by decide +kernel, rfl⟩
theorem d_X6_readNewName_24 : kf_dq cX6_readNewName 24 27 3 (.getfield 104) := ⟨by decide +kernel, rfl⟩
theorem d_X6_readNewName_27 : kf_dq cX6_readNewName 27 30 3 (.invokestatic 161) := ⟨by decide +kernel, rfl⟩
theorem d_X6_readNewName_30 : kf_dj cX6_readNewName 30 33 54 (.ifCond .ge) := ⟨24, by decide +kernel, rfl, by decide⟩
theorem d_X6_readNewName_33 : kf_dq cX6_readNewName 33 34 1 (.lload_n 1) := ⟨by decide +kernel, rfl⟩
theorem d_X6_readNewName_34 : kf_dq cX6_readNewName 34 35 1 (.aload_n 0) := ⟨by decide +kernel, rfl⟩
theorem d_X6_readNewName_35 : kf_dq cX6_readNewName 35 38 3 (.getfield 15) := ⟨by decide +kernel, rfl⟩
theorem d_X6_readNewName_38 : kf_dq cX6_readNewName 38 41 3 (.getfield 125) := ⟨by decide +kernel, rfl⟩
theorem d_X6_readNewName_41 : kf_dq cX6_readNewName 41 42 1 (.aload_n 0) := ⟨by decide +kernel, rfl⟩
theorem d_X6_readNewName_42 : kf_dq cX6_readNewName 42 45 3 (.getfield 15) := ⟨by decide +kernel, rfl⟩
theorem d_X6_readNewName_45 : kf_dq cX6_readNewName 45 48 3 (.getfield 122) := ⟨by decide +kernel, rfl⟩
theorem d_X6_readNewName_48 : kf_dq cX6_readNewName 48 51 3 (.invokestatic 161) := ⟨by decide +kernel, rfl⟩
theorem d_X6_readNewName_51 : kf_dj cX6_readNewName 51 54 59 (.ifCond .lt) := ⟨8, by decide +kernel, rfl, by decide⟩
theorem d_X6_readNewName_54 : kf_dq cX6_readNewName 54 55 1 (.aload_n 0) := ⟨by decide +kernel, rfl⟩
theorem d_X6_readNewName_55 : kf_dq cX6_readNewName 55 56 1 (.iconst 3) := ⟨by decide +kernel, rfl⟩
theorem d_X6_readNewName_56 : kf_dq cX6_readNewName 56 59 3 (.invokevirtual 158) := ⟨by decide +kernel, rfl⟩
theorem d_X6_readNewName_59 : kf_dq cX6_readNewName 59 60 1 (.aload_n 0) := ⟨by decide +kernel, rfl⟩
theorem d_X6_readNewName_60 : kf_dq cX6_readNewName 60 61 1 (.iconst 2) := ⟨by decide +kernel, rfl⟩
theorem d_X6_readNewName_61 : kf_dq cX6_readNewName 61 64 3 (.invokevirtual 101) := ⟨by decide +kernel, rfl⟩
theorem d_X6_readNewName_64 : kf_dq cX6_readNewName 64 65 1 (.lload_n 1) := ⟨by decide +kernel, rfl⟩
theorem d_X6_readNewName_65 : kf_dq cX6_readNewName 65 66 1 (.lreturn) := ⟨by decide +kernel, rfl⟩
def f_X6_readNewName_59 (v0 : Nat) (v1 : Int64) (σ : kf_St) : Option (Int64 × kf_St) :=
  (f_X6_take v0 2 σ).bind fun q_1 =>
  some (v1, q_1)
set_option maxRecDepth 100000 in
set_option maxHeartbeats 4000000 in
theorem b_X6_readNewName_59 {X : kf_X} {G : kf_G} {q : (Int64 × kf_St)} (E : kf_ok X G cX6_readNewName RX6 3 (some .long) (3)) (hty : kf_wt G) (v0 : Nat) (v1 : Int64) (k_v0 : kf_kd G v0 = 7) (σ : kf_St) (h : f_X6_readNewName_59 v0 v1 σ = some q) : kf_WA X G 3 (kf_Q X G (some (.long q.1)) q.2) 59 [(0, .ref (kf_ad G v0)), (1, .long v1)] [] σ := by
  unfold f_X6_readNewName_59 at h
  refine wa_aload_n 0 rfl E d_X6_readNewName_59 ?_
  refine wa_iconst 2 ic_2 E d_X6_readNewName_60 ?_
  obtain ⟨q_1, hq_1, h⟩ := kf_bd h
  refine wa_callV (st2 := []) (c_X6_take hty v0 2 k_v0 σ hq_1) mv_X6_take ml_X6_101 k_v0 rfl (Nat.le_of_ble_eq_true rfl) rfl (Nat.le_of_ble_eq_true rfl) E d_X6_readNewName_61 rfl ?_
  refine wa_lload_n 1 rfl E d_X6_readNewName_64 ?_
  cases h
  exact wa_lret E d_X6_readNewName_65
def f_X6_readNewName_54 (v0 : Nat) (v1 : Int64) (σ : kf_St) : Option (Int64 × kf_St) :=
  (f_X6_noteSlip v0 3 σ).bind fun q_1 =>
  f_X6_readNewName_59 v0 v1 q_1
set_option maxRecDepth 100000 in
set_option maxHeartbeats 4000000 in
theorem b_X6_readNewName_54 {X : kf_X} {G : kf_G} {q : (Int64 × kf_St)} (E : kf_ok X G cX6_readNewName RX6 3 (some .long) (3)) (hty : kf_wt G) (v0 : Nat) (v1 : Int64) (k_v0 : kf_kd G v0 = 7) (σ : kf_St) (h : f_X6_readNewName_54 v0 v1 σ = some q) : kf_WA X G 3 (kf_Q X G (some (.long q.1)) q.2) 54 [(0, .ref (kf_ad G v0)), (1, .long v1)] [] σ := by
  unfold f_X6_readNewName_54 at h
  refine wa_aload_n 0 rfl E d_X6_readNewName_54 ?_
  refine wa_iconst 3 ic_3 E d_X6_readNewName_55 ?_
  obtain ⟨q_1, hq_1, h⟩ := kf_bd h
  refine wa_callV (st2 := []) (c_X6_noteSlip hty v0 3 k_v0 σ hq_1) mv_X6_noteSlip ml_X6_158 k_v0 rfl (Nat.le_of_ble_eq_true rfl) rfl (Nat.le_of_ble_eq_true rfl) E d_X6_readNewName_56 rfl ?_
  exact b_X6_readNewName_59 E hty v0 v1 k_v0 q_1 h
def f_X6_readNewName (v0 : Nat) (σ : kf_St) : Option (Int64 × kf_St) :=
  (f_X8_valueAt (kf_rf v0 2) (σ.1 v0 4) σ).bind fun q_1 =>
  (f_X10_rowOf q_1.1 (kf_rf (kf_rf v0 3) 6) (q_1.2.1 (kf_rf v0 3) 0) q_1.2).bind fun q_2 =>
  if 0 ≤ q_2.1 then
    f_X6_readNewName_54 v0 q_1.1 q_2.2
  else
    (f_X10_rowOf q_1.1 (kf_rf (kf_rf v0 3) 7) (q_2.2.1 (kf_rf v0 3) 1) q_2.2).bind fun q_4 =>
    if q_4.1 < 0 then
      f_X6_readNewName_59 v0 q_1.1 q_4.2
    else
      f_X6_readNewName_54 v0 q_1.1 q_4.2
set_option maxRecDepth 100000 in
set_option maxHeartbeats 4000000 in
theorem c_X6_readNewName {G : kf_G} (hty : kf_wt G) (v0 : Nat) (k_v0 : kf_kd G v0 = 7) (σ : kf_St) {q : (Int64 × kf_St)} (h : f_X6_readNewName v0 σ = some q) : kf_Ct (3) yX6_readNewName cX6_readNewName 3 (some .long) G [.ref (kf_ad G v0)] σ (some (.long q.1)) q.2 := by
  refine kf_Ct.of hty.1 (lv := [(0, .ref (kf_ad G v0))]) (by decide +kernel) rfl (Nat.le_of_ble_eq_true rfl) (fun X E => ?_)
  unfold f_X6_readNewName at h
  refine wa_aload_n 0 rfl E d_X6_readNewName_0 ?_
  refine wa_getR fl_X6_9 k_v0 rfl E d_X6_readNewName_1 ?_
  refine wa_aload_n 0 rfl E d_X6_readNewName_4 ?_
  refine wa_getI fl_X6_33 k_v0 rfl E d_X6_readNewName_5 ?_
  obtain ⟨q_1, hq_1, h⟩ := kf_bd h
  refine wa_callV (st2 := [.long q_1.1]) (c_X8_valueAt hty (kf_rf v0 2) (σ.1 v0 4) (kf_wtf hty 2 8 k_v0 (by decide) rfl) σ hq_1) mv_X8_valueAt ml_X6_154 (kf_wtf hty 2 8 k_v0 (by decide) rfl) rfl (Nat.le_of_ble_eq_true rfl) rfl (Nat.le_of_ble_eq_true rfl) E d_X6_readNewName_8 rfl ?_
  refine wa_lstore_n (lv' := [(1, .long q_1.1), (0, .ref (kf_ad G v0))]) rfl (by decide) rfl E d_X6_readNewName_11 ?_
  refine wa_lload_n 0 rfl E d_X6_readNewName_12 ?_
  refine wa_aload_n 1 rfl E d_X6_readNewName_13 ?_
  refine wa_getR fl_X6_15 k_v0 rfl E d_X6_readNewName_14 ?_
  refine wa_getR fl_X6_107 (kf_wtf hty 3 10 k_v0 (by decide) rfl) rfl E d_X6_readNewName_17 ?_
  refine wa_aload_n 1 rfl E d_X6_readNewName_20 ?_
  refine wa_getR fl_X6_15 k_v0 rfl E d_X6_readNewName_21 ?_
  refine wa_getI fl_X6_104 (kf_wtf hty 3 10 k_v0 (by decide) rfl) rfl E d_X6_readNewName_24 ?_
  obtain ⟨q_2, hq_2, h⟩ := kf_bd h
  refine wa_callS (st2 := [.int q_2.1]) (c_X10_rowOf hty q_1.1 (kf_rf (kf_rf v0 3) 6) (q_1.2.1 (kf_rf v0 3) 0) (kf_wtf hty 6 50 (kf_wtf hty 3 10 k_v0 (by decide) rfl) (by decide) rfl) q_1.2 hq_2) mt_X10_rowOf ml_X6_161 rfl (Nat.le_of_ble_eq_true rfl) rfl (Nat.le_of_ble_eq_true rfl) E d_X6_readNewName_27 rfl ?_
  refine wa_if_ge E d_X6_readNewName_30 (fun c_3 => ?_) (fun c_3 => ?_)
  · replace h := kf_ift c_3 h
    refine wa_sub [1, 0] rfl ?_
    exact b_X6_readNewName_54 E hty v0 q_1.1 k_v0 q_2.2 h
  · replace h := kf_iff c_3 h
    refine wa_lload_n 0 rfl E d_X6_readNewName_33 ?_
    refine wa_aload_n 1 rfl E d_X6_readNewName_34 ?_
    refine wa_getR fl_X6_15 k_v0 rfl E d_X6_readNewName_35 ?_
    refine wa_getR fl_X6_125 (kf_wtf hty 3 10 k_v0 (by decide) rfl) rfl E d_X6_readNewName_38 ?_
    refine wa_aload_n 1 rfl E d_X6_readNewName_41 ?_
    refine wa_getR fl_X6_15 k_v0 rfl E d_X6_readNewName_42 ?_
    refine wa_getI fl_X6_122 (kf_wtf hty 3 10 k_v0 (by decide) rfl) rfl E d_X6_readNewName_45 ?_
    obtain ⟨q_4, hq_4, h⟩ := kf_bd h
    refine wa_callS (st2 := [.int q_4.1]) (c_X10_rowOf hty q_1.1 (kf_rf (kf_rf v0 3) 7) (q_2.2.1 (kf_rf v0 3) 1) (kf_wtf hty 7 50 (kf_wtf hty 3 10 k_v0 (by decide) rfl) (by decide) rfl) q_2.2 hq_4) mt_X10_rowOf ml_X6_161 rfl (Nat.le_of_ble_eq_true rfl) rfl (Nat.le_of_ble_eq_true rfl) E d_X6_readNewName_48 rfl ?_
    refine wa_if_lt E d_X6_readNewName_51 (fun c_5 => ?_) (fun c_5 => ?_)
    · replace h := kf_ift c_5 h
      refine wa_sub [1, 0] rfl ?_
      exact b_X6_readNewName_59 E hty v0 q_1.1 k_v0 q_4.2 h
    · replace h := kf_iff c_5 h
      refine wa_sub [1, 0] rfl ?_
      exact b_X6_readNewName_54 E hty v0 q_1.1 k_v0 q_4.2 h
/-! X6_readNumber -/
theorem d_X6_readNumber_0 : kf_dq cX6_readNumber 0 1 1 (.aload_n 0) := ⟨by decide +kernel, rfl⟩
theorem d_X6_readNumber_1 : kf_dq cX6_readNumber 1 4 3 (.getfield 9) := ⟨by decide +kernel, rfl⟩
theorem d_X6_readNumber_4 : kf_dq cX6_readNumber 4 5 1 (.aload_n 0) := ⟨by decide +kernel, rfl⟩
theorem d_X6_readNumber_5 : kf_dq cX6_readNumber 5 8 3 (.getfield 33) := ⟨by decide +kernel, rfl⟩
theorem d_X6_readNumber_8 : kf_dq cX6_readNumber 8 11 3 (.invokevirtual 154) := ⟨by decide +kernel, rfl⟩
theorem d_X6_readNumber_11 : kf_dq cX6_readNumber 11 12 1 (.l2i) := ⟨by decide +kernel, rfl⟩
theorem d_X6_readNumber_12 : kf_dq cX6_readNumber 12 13 1 (.istore_n 3) := ⟨by decide +kernel, rfl⟩
theorem d_X6_readNumber_13 : kf_dq cX6_readNumber 13 14 1 (.aload_n 0) := ⟨by decide +kernel, rfl⟩
theorem d_X6_readNumber_14 : kf_dq cX6_readNumber 14 17 3 (.getfield 40) := ⟨by decide +kernel, rfl⟩
theorem d_X6_readNumber_17 : kf_dq cX6_readNumber 17 18 1 (.iconst 3) := ⟨by decide +kernel, rfl⟩
theorem d_X6_readNumber_18 : kf_dj cX6_readNumber 18 21 36 (.if_icmp .ne) := ⟨18, by decide +kernel, rfl, by decide⟩
theorem d_X6_readNumber_21 : kf_dq cX6_readNumber 21 22 1 (.iload_n 3) := ⟨by decide +kernel, rfl⟩
theorem d_X6_readNumber_22 : kf_dq cX6_readNumber 22 23 1 (.iload_n 1) := ⟨by decide +kernel, rfl⟩
theorem d_X6_readNumber_23 : kf_dj cX6_readNumber 23 26 31 (.if_icmp .lt) := ⟨8, by decide +kernel, rfl, by decide⟩
theorem d_X6_readNumber_26 : kf_dq cX6_readNumber 26 27 1 (.iload_n 3) := ⟨by decide +kernel, rfl⟩
theorem d_X6_readNumber_27 : kf_dq cX6_readNumber 27 28 1 (.iload_n 2) := ⟨by decide +kernel, rfl⟩
theorem d_X6_readNumber_28 : kf_dj cX6_readNumber 28 31 36 (.if_icmp .le) := ⟨8, by decide +kernel, rfl, by decide⟩
theorem d_X6_readNumber_31 : kf_dq cX6_readNumber 31 32 1 (.aload_n 0) := ⟨by decide +kernel, rfl⟩
theorem d_X6_readNumber_32 : kf_dq cX6_readNumber 32 33 1 (.iconst 5) := ⟨by decide +kernel, rfl⟩
theorem d_X6_readNumber_33 : kf_dq cX6_readNumber 33 36 3 (.invokevirtual 158) := ⟨by decide +kernel, rfl⟩
theorem d_X6_readNumber_36 : kf_dq cX6_readNumber 36 37 1 (.aload_n 0) := ⟨by decide +kernel, rfl⟩
theorem d_X6_readNumber_37 : kf_dq cX6_readNumber 37 38 1 (.iconst 3) := ⟨by decide +kernel, rfl⟩
theorem d_X6_readNumber_38 : kf_dq cX6_readNumber 38 41 3 (.invokevirtual 101) := ⟨by decide +kernel, rfl⟩
theorem d_X6_readNumber_41 : kf_dq cX6_readNumber 41 42 1 (.iload_n 3) := ⟨by decide +kernel, rfl⟩
theorem d_X6_readNumber_42 : kf_dq cX6_readNumber 42 43 1 (.ireturn) := ⟨by decide +kernel, rfl⟩
def f_X6_readNumber_36 (v0 : Nat) (v3 : Int32) (σ : kf_St) : Option (Int32 × kf_St) :=
  (f_X6_take v0 3 σ).bind fun q_1 =>
  some (v3, q_1)
set_option maxRecDepth 100000 in
set_option maxHeartbeats 4000000 in
theorem b_X6_readNumber_36 {X : kf_X} {G : kf_G} {q : (Int32 × kf_St)} (E : kf_ok X G cX6_readNumber RX6 4 (some .int) (3)) (hty : kf_wt G) (v0 : Nat) (v3 : Int32) (k_v0 : kf_kd G v0 = 7) (σ : kf_St) (h : f_X6_readNumber_36 v0 v3 σ = some q) : kf_WA X G 4 (kf_Q X G (some (.int q.1)) q.2) 36 [(0, .ref (kf_ad G v0)), (3, .int v3)] [] σ := by
  unfold f_X6_readNumber_36 at h
  refine wa_aload_n 0 rfl E d_X6_readNumber_36 ?_
  refine wa_iconst 3 ic_3 E d_X6_readNumber_37 ?_
  obtain ⟨q_1, hq_1, h⟩ := kf_bd h
  refine wa_callV (st2 := []) (c_X6_take hty v0 3 k_v0 σ hq_1) mv_X6_take ml_X6_101 k_v0 rfl (Nat.le_of_ble_eq_true rfl) rfl (Nat.le_of_ble_eq_true rfl) E d_X6_readNumber_38 rfl ?_
  refine wa_iload_n 1 rfl E d_X6_readNumber_41 ?_
  cases h
  exact wa_iret E d_X6_readNumber_42
def f_X6_readNumber_31 (v0 : Nat) (v3 : Int32) (σ : kf_St) : Option (Int32 × kf_St) :=
  (f_X6_noteSlip v0 5 σ).bind fun q_1 =>
  f_X6_readNumber_36 v0 v3 q_1
set_option maxRecDepth 100000 in
set_option maxHeartbeats 4000000 in
theorem b_X6_readNumber_31 {X : kf_X} {G : kf_G} {q : (Int32 × kf_St)} (E : kf_ok X G cX6_readNumber RX6 4 (some .int) (3)) (hty : kf_wt G) (v0 : Nat) (v3 : Int32) (k_v0 : kf_kd G v0 = 7) (σ : kf_St) (h : f_X6_readNumber_31 v0 v3 σ = some q) : kf_WA X G 4 (kf_Q X G (some (.int q.1)) q.2) 31 [(0, .ref (kf_ad G v0)), (3, .int v3)] [] σ := by
  unfold f_X6_readNumber_31 at h
  refine wa_aload_n 0 rfl E d_X6_readNumber_31 ?_
  refine wa_iconst 5 ic_5 E d_X6_readNumber_32 ?_
  obtain ⟨q_1, hq_1, h⟩ := kf_bd h
  refine wa_callV (st2 := []) (c_X6_noteSlip hty v0 5 k_v0 σ hq_1) mv_X6_noteSlip ml_X6_158 k_v0 rfl (Nat.le_of_ble_eq_true rfl) rfl (Nat.le_of_ble_eq_true rfl) E d_X6_readNumber_33 rfl ?_
  exact b_X6_readNumber_36 E hty v0 v3 k_v0 q_1 h
def f_X6_readNumber (v0 : Nat) (v1 : Int32) (v2 : Int32) (σ : kf_St) : Option (Int32 × kf_St) :=
  (f_X8_valueAt (kf_rf v0 2) (σ.1 v0 4) σ).bind fun q_1 =>
  kf_lt ((Int64.toInt32 q_1.1)) fun v3_2 =>
  if (q_1.2.1 v0 5) = 3 then
    if v3_2 < v1 then
      f_X6_readNumber_31 v0 v3_2 q_1.2
    else
      if v3_2 ≤ v2 then
        f_X6_readNumber_36 v0 v3_2 q_1.2
      else
        f_X6_readNumber_31 v0 v3_2 q_1.2
  else
    f_X6_readNumber_36 v0 v3_2 q_1.2
set_option maxRecDepth 100000 in
set_option maxHeartbeats 4000000 in
theorem c_X6_readNumber {G : kf_G} (hty : kf_wt G) (v0 : Nat) (v1 : Int32) (v2 : Int32) (k_v0 : kf_kd G v0 = 7) (σ : kf_St) {q : (Int32 × kf_St)} (h : f_X6_readNumber v0 v1 v2 σ = some q) : kf_Ct (3) yX6_readNumber cX6_readNumber 4 (some .int) G [.ref (kf_ad G v0), .int v1, .int v2] σ (some (.int q.1)) q.2 := by
  refine kf_Ct.of hty.1 (lv := [(0, .ref (kf_ad G v0)), (1, .int v1), (2, .int v2)]) (by decide +kernel) rfl (Nat.le_of_ble_eq_true rfl) (fun X E => ?_)
  unfold f_X6_readNumber at h
  refine wa_aload_n 0 rfl E d_X6_readNumber_0 ?_
  refine wa_getR fl_X6_9 k_v0 rfl E d_X6_readNumber_1 ?_
  refine wa_aload_n 0 rfl E d_X6_readNumber_4 ?_
  refine wa_getI fl_X6_33 k_v0 rfl E d_X6_readNumber_5 ?_
  obtain ⟨q_1, hq_1, h⟩ := kf_bd h
  refine wa_callV (st2 := [.long q_1.1]) (c_X8_valueAt hty (kf_rf v0 2) (σ.1 v0 4) (kf_wtf hty 2 8 k_v0 (by decide) rfl) σ hq_1) mv_X8_valueAt ml_X6_154 (kf_wtf hty 2 8 k_v0 (by decide) rfl) rfl (Nat.le_of_ble_eq_true rfl) rfl (Nat.le_of_ble_eq_true rfl) E d_X6_readNumber_8 rfl ?_
  refine wa_l2i E d_X6_readNumber_11 ?_
  obtain ⟨v3_2, ev3_2, h⟩ := kf_lte h
  refine wa_topi ev3_2 ?_
  refine wa_istore_n (lv' := [(3, .int v3_2), (0, .ref (kf_ad G v0)), (1, .int v1), (2, .int v2)]) rfl (by decide) rfl E d_X6_readNumber_12 ?_
  refine wa_aload_n 1 rfl E d_X6_readNumber_13 ?_
  refine wa_getI fl_X6_40 k_v0 rfl E d_X6_readNumber_14 ?_
  refine wa_iconst 3 ic_3 E d_X6_readNumber_17 ?_
  refine wa_icmp_ne E d_X6_readNumber_18 (fun c_3 => ?_) (fun c_3 => ?_)
  · replace h := kf_iff c_3 h
    refine wa_sub [1, 0] rfl ?_
    exact b_X6_readNumber_36 E hty v0 v3_2 k_v0 q_1.2 h
  · replace h := kf_ift c_3 h
    refine wa_iload_n 0 rfl E d_X6_readNumber_21 ?_
    refine wa_iload_n 2 rfl E d_X6_readNumber_22 ?_
    refine wa_icmp_lt E d_X6_readNumber_23 (fun c_4 => ?_) (fun c_4 => ?_)
    · replace h := kf_ift c_4 h
      refine wa_sub [1, 0] rfl ?_
      exact b_X6_readNumber_31 E hty v0 v3_2 k_v0 q_1.2 h
    · replace h := kf_iff c_4 h
      refine wa_iload_n 0 rfl E d_X6_readNumber_26 ?_
      refine wa_iload_n 3 rfl E d_X6_readNumber_27 ?_
      refine wa_icmp_le E d_X6_readNumber_28 (fun c_5 => ?_) (fun c_5 => ?_)
      · replace h := kf_ift c_5 h
        refine wa_sub [1, 0] rfl ?_
        exact b_X6_readNumber_36 E hty v0 v3_2 k_v0 q_1.2 h
      · replace h := kf_iff c_5 h
        refine wa_sub [1, 0] rfl ?_
        exact b_X6_readNumber_31 E hty v0 v3_2 k_v0 q_1.2 h
/-! X6_readFace -/
theorem d_X6_readFace_0 : kf_dq cX6_readFace 0 1 1 (.iconst 0) := ⟨by decide +kernel, rfl⟩
theorem d_X6_readFace_1 : kf_dq cX6_readFace 1 2 1 (.istore_n 3) := ⟨by decide +kernel, rfl⟩
theorem d_X6_readFace_2 : kf_dq cX6_readFace 2 3 1 (.iload_n 3) := ⟨by decide +kernel, rfl⟩
theorem d_X6_readFace_3 : kf_dq cX6_readFace 3 4 1 (.iconst 4) := ⟨by decide +kernel, rfl⟩
theorem d_X6_readFace_4 : kf_dj cX6_readFace 4 7 41 (.if_icmp .ge) := ⟨37, by decide +kernel, rfl, by decide⟩
theorem d_X6_readFace_7 : kf_dq cX6_readFace 7 8 1 (.aload_n 0) := ⟨by decide +kernel, rfl⟩
theorem d_X6_readFace_8 : kf_dq cX6_readFace 8 9 1 (.iconst 0) := ⟨by decide +kernel, rfl⟩
theorem d_X6_readFace_9 : kf_dq cX6_readFace 9 11 2 (.bipush 99) := ⟨by decide +kernel, rfl⟩
theorem d_X6_readFace_11 : kf_dq cX6_readFace 11 14 3 (.invokevirtual 147) := ⟨by decide +kernel, rfl⟩
theorem d_X6_readFace_14 : kf_dq cX6_readFace 14 16 2 (.istore 4) := ⟨by decide +kernel, rfl⟩
theorem d_X6_readFace_16 : kf_dq cX6_readFace 16 17 1 (.iconst 4) := ⟨by decide +kernel, rfl⟩
theorem d_X6_readFace_17 : kf_dq cX6_readFace 17 18 1 (.iload_n 2) := ⟨by decide +kernel, rfl⟩
theorem d_X6_readFace_18 : kf_dq cX6_readFace 18 19 1 (.imul) := ⟨by decide +kernel, rfl⟩
theorem d_X6_readFace_19 : kf_dq cX6_readFace 19 20 1 (.iload_n 3) := ⟨by decide +kernel, rfl⟩
theorem d_X6_readFace_20 : kf_dq cX6_readFace 20 21 1 (.iadd) := ⟨by decide +kernel, rfl⟩
theorem d_X6_readFace_21 : kf_dq cX6_readFace 21 22 1 (.aload_n 1) := ⟨by decide +kernel, rfl⟩
theorem d_X6_readFace_22 : kf_dq cX6_readFace 22 23 1 (.arraylength) := ⟨by decide +kernel, rfl⟩
theorem d_X6_readFace_23 : kf_dj cX6_readFace 23 26 35 (.if_icmp .ge) := ⟨12, by decide +kernel, rfl, by decide⟩
theorem d_X6_readFace_26 : kf_dq cX6_readFace 26 27 1 (.aload_n 1) := ⟨by decide +kernel, rfl⟩
theorem d_X6_readFace_27 : kf_dq cX6_readFace 27 28 1 (.iconst 4) := ⟨by decide +kernel, rfl⟩
theorem d_X6_readFace_28 : kf_dq cX6_readFace 28 29 1 (.iload_n 2) := ⟨by decide +kernel, rfl⟩
theorem d_X6_readFace_29 : kf_dq cX6_readFace 29 30 1 (.imul) := ⟨by decide +kernel, rfl⟩
theorem d_X6_readFace_30 : kf_dq cX6_readFace 30 31 1 (.iload_n 3) := ⟨by decide +kernel, rfl⟩
theorem d_X6_readFace_31 : kf_dq cX6_readFace 31 32 1 (.iadd) := ⟨by decide +kernel, rfl⟩
theorem d_X6_readFace_32 : kf_dq cX6_readFace 32 34 2 (.iload 4) := ⟨by decide +kernel, rfl⟩
theorem d_X6_readFace_34 : kf_dq cX6_readFace 34 35 1 (.iastore) := ⟨by decide +kernel, rfl⟩
theorem d_X6_readFace_35 : kf_dq cX6_readFace 35 38 3 (.iinc 3 1) := ⟨by decide +kernel, rfl⟩
theorem d_X6_readFace_38 : kf_dj cX6_readFace 38 41 2 .goto := ⟨(-36), by decide +kernel, rfl, by decide⟩
theorem d_X6_readFace_41 : kf_dq cX6_readFace 41 42 1 (.return_) := ⟨by decide +kernel, rfl⟩
def f_X6_readFace_35 (rec2 : Nat → Nat → Int32 → Int32 → kf_St → Option kf_St) (v0 : Nat) (v1 : Nat) (v2 : Int32) (v3 : Int32) (σ : kf_St) : Option kf_St :=
  kf_lt (v3 + 1) fun v3_1 =>
  rec2 v0 v1 v2 v3_1 σ
set_option maxRecDepth 100000 in
set_option maxHeartbeats 4000000 in
theorem b_X6_readFace_35 {X : kf_X} {G : kf_G} {rec2 : Nat → Nat → Int32 → Int32 → kf_St → Option kf_St} {q : kf_St} (E : kf_ok X G cX6_readFace RX6 5 none (4)) (hty : kf_wt G) (hrec2 : ∀ (v0 : Nat) (v1 : Nat) (v2 : Int32) (v3 : Int32) (k_v0 : kf_kd G v0 = 7) (k_v1 : kf_kd G v1 = 50) (σ : kf_St), rec2 v0 v1 v2 v3 σ = some q → kf_WA X G 5 (kf_Q X G none q) 2 [(0, .ref (kf_ad G v0)), (1, .ref (kf_ad G v1)), (2, .int v2), (3, .int v3)] [] σ) (v0 : Nat) (v1 : Nat) (v2 : Int32) (v3 : Int32) (k_v0 : kf_kd G v0 = 7) (k_v1 : kf_kd G v1 = 50) (σ : kf_St) (h : f_X6_readFace_35 rec2 v0 v1 v2 v3 σ = some q) : kf_WA X G 5 (kf_Q X G none q) 35 [(0, .ref (kf_ad G v0)), (1, .ref (kf_ad G v1)), (2, .int v2), (3, .int v3)] [] σ := by
  unfold f_X6_readFace_35 at h
  obtain ⟨v3_1, ev3_1, h⟩ := kf_lte h
  refine wa_iinc (lv' := [(3, .int v3_1), (0, .ref (kf_ad G v0)), (1, .ref (kf_ad G v1)), (2, .int v2)]) v3_1 3 rfl (kf_inc ic_1 ev3_1) (by decide) rfl E d_X6_readFace_35 ?_
  refine wa_goto E d_X6_readFace_38 ?_
  refine wa_sub [1, 2, 3, 0] rfl ?_
  exact hrec2 v0 v1 v2 v3_1 k_v0 k_v1 σ h
def f_X6_readFace_2_s (rec2 : Nat → Nat → Int32 → Int32 → kf_St → Option kf_St) (v0 : Nat) (v1 : Nat) (v2 : Int32) (v3 : Int32) (σ : kf_St) : Option kf_St :=
  if 4 ≤ v3 then
    some σ
  else
    (f_X6_readNumber v0 0 99 σ).bind fun q_2 =>
    if (nI (kf_ln v1)) ≤ ((4 * v2) + v3) then
      f_X6_readFace_35 rec2 v0 v1 v2 v3 q_2.2
    else
      if kf_ix ((4 * v2) + v3) (kf_ln v1) = true then
      kf_lt (kf_wi q_2.2 v1 (Int32.toNatClampNeg ((4 * v2) + v3)) q_2.1) fun σ_5 =>
      f_X6_readFace_35 rec2 v0 v1 v2 v3 σ_5
      else none
def f_X6_readFace_2 : Nat → Nat → Nat → Int32 → Int32 → kf_St → Option kf_St
  | 0, _, _, _, _, _ => none
  | n + 1, v0, v1, v2, v3, σ => f_X6_readFace_2_s (f_X6_readFace_2 n) v0 v1 v2 v3 σ
set_option maxRecDepth 100000 in
set_option maxHeartbeats 4000000 in
theorem b_X6_readFace_2_s {X : kf_X} {G : kf_G} (rec2 : Nat → Nat → Int32 → Int32 → kf_St → Option kf_St) {q : kf_St} (E : kf_ok X G cX6_readFace RX6 5 none (4)) (hty : kf_wt G) (hrec2 : ∀ (v0 : Nat) (v1 : Nat) (v2 : Int32) (v3 : Int32) (k_v0 : kf_kd G v0 = 7) (k_v1 : kf_kd G v1 = 50) (σ : kf_St), rec2 v0 v1 v2 v3 σ = some q → kf_WA X G 5 (kf_Q X G none q) 2 [(0, .ref (kf_ad G v0)), (1, .ref (kf_ad G v1)), (2, .int v2), (3, .int v3)] [] σ) (v0 : Nat) (v1 : Nat) (v2 : Int32) (v3 : Int32) (k_v0 : kf_kd G v0 = 7) (k_v1 : kf_kd G v1 = 50) (σ : kf_St) (h : f_X6_readFace_2_s rec2 v0 v1 v2 v3 σ = some q) : kf_WA X G 5 (kf_Q X G none q) 2 [(0, .ref (kf_ad G v0)), (1, .ref (kf_ad G v1)), (2, .int v2), (3, .int v3)] [] σ := by
  unfold f_X6_readFace_2_s at h
  refine wa_iload_n 3 rfl E d_X6_readFace_2 ?_
  refine wa_iconst 4 ic_4 E d_X6_readFace_3 ?_
  refine wa_icmp_ge E d_X6_readFace_4 (fun c_1 => ?_) (fun c_1 => ?_)
  · replace h := kf_ift c_1 h
    cases h
    exact wa_vret E d_X6_readFace_41
  · replace h := kf_iff c_1 h
    refine wa_aload_n 0 rfl E d_X6_readFace_7 ?_
    refine wa_iconst 0 ic_0 E d_X6_readFace_8 ?_
    refine wa_bipush 99 bp_99 E d_X6_readFace_9 ?_
    obtain ⟨q_2, hq_2, h⟩ := kf_bd h
    refine wa_callV (st2 := [.int q_2.1]) (c_X6_readNumber hty v0 0 99 k_v0 σ hq_2) mv_X6_readNumber ml_X6_147 k_v0 rfl (Nat.le_of_ble_eq_true rfl) rfl (Nat.le_of_ble_eq_true rfl) E d_X6_readFace_11 rfl ?_
    refine wa_istore (lv' := [(4, .int q_2.1), (0, .ref (kf_ad G v0)), (1, .ref (kf_ad G v1)), (2, .int v2), (3, .int v3)]) (by decide) rfl E d_X6_readFace_14 ?_
    refine wa_iconst 4 ic_4 E d_X6_readFace_16 ?_
    refine wa_iload_n 3 rfl E d_X6_readFace_17 ?_
    refine wa_imul E d_X6_readFace_18 ?_
    refine wa_iload_n 4 rfl E d_X6_readFace_19 ?_
    refine wa_iadd E d_X6_readFace_20 ?_
    refine wa_aload_n 2 rfl E d_X6_readFace_21 ?_
    refine wa_alen_i k_v1 E d_X6_readFace_22 ?_
    refine wa_icmp_ge E d_X6_readFace_23 (fun c_3 => ?_) (fun c_3 => ?_)
    · replace h := kf_ift c_3 h
      refine wa_sub [1, 2, 3, 4] rfl ?_
      exact b_X6_readFace_35 E hty hrec2 v0 v1 v2 v3 k_v0 k_v1 q_2.2 h
    · replace h := kf_iff c_3 h
      refine wa_aload_n 2 rfl E d_X6_readFace_26 ?_
      refine wa_iconst 4 ic_4 E d_X6_readFace_27 ?_
      refine wa_iload_n 3 rfl E d_X6_readFace_28 ?_
      refine wa_imul E d_X6_readFace_29 ?_
      refine wa_iload_n 4 rfl E d_X6_readFace_30 ?_
      refine wa_iadd E d_X6_readFace_31 ?_
      refine wa_iload 0 rfl E d_X6_readFace_32 ?_
      obtain ⟨g_4, h⟩ := kf_gd h
      obtain ⟨σ_5, eσ_5, h⟩ := kf_lte h
      refine wa_iast k_v1 g_4 E d_X6_readFace_34 eσ_5 ?_
      refine wa_sub [1, 2, 3, 4] rfl ?_
      exact b_X6_readFace_35 E hty hrec2 v0 v1 v2 v3 k_v0 k_v1 σ_5 h
theorem b_X6_readFace_2 {X : kf_X} {G : kf_G} {q : kf_St} (E : kf_ok X G cX6_readFace RX6 5 none (4)) (hty : kf_wt G) : ∀ (N : Nat) (v0 : Nat) (v1 : Nat) (v2 : Int32) (v3 : Int32) (k_v0 : kf_kd G v0 = 7) (k_v1 : kf_kd G v1 = 50) (σ : kf_St) (_ : f_X6_readFace_2 N v0 v1 v2 v3 σ = some q), kf_WA X G 5 (kf_Q X G none q) 2 [(0, .ref (kf_ad G v0)), (1, .ref (kf_ad G v1)), (2, .int v2), (3, .int v3)] [] σ
  | 0, _, _, _, _, _, _, _, h => by cases h
  | N + 1, v0, v1, v2, v3, k_v0, k_v1, σ, h => b_X6_readFace_2_s _ E hty (b_X6_readFace_2 E hty N) v0 v1 v2 v3 k_v0 k_v1 σ h
def f_X6_readFace (v0 : Nat) (v1 : Nat) (v2 : Int32) (σ : kf_St) : Option kf_St :=
  f_X6_readFace_2 kf_F v0 v1 v2 0 σ
set_option maxRecDepth 100000 in
set_option maxHeartbeats 4000000 in
theorem c_X6_readFace {G : kf_G} (hty : kf_wt G) (v0 : Nat) (v1 : Nat) (v2 : Int32) (k_v0 : kf_kd G v0 = 7) (k_v1 : kf_kd G v1 = 50) (σ : kf_St) {q : kf_St} (h : f_X6_readFace v0 v1 v2 σ = some q) : kf_Ct (4) yX6_readFace cX6_readFace 5 none G [.ref (kf_ad G v0), .ref (kf_ad G v1), .int v2] σ none q := by
  refine kf_Ct.of hty.1 (lv := [(0, .ref (kf_ad G v0)), (1, .ref (kf_ad G v1)), (2, .int v2)]) (by decide +kernel) rfl (Nat.le_of_ble_eq_true rfl) (fun X E => ?_)
  unfold f_X6_readFace at h
  refine wa_iconst 0 ic_0 E d_X6_readFace_0 ?_
  refine wa_istore_n (lv' := [(3, .int 0), (0, .ref (kf_ad G v0)), (1, .ref (kf_ad G v1)), (2, .int v2)]) rfl (by decide) rfl E d_X6_readFace_1 ?_
  refine wa_sub [1, 2, 3, 0] rfl ?_
  exact b_X6_readFace_2 E hty kf_F v0 v1 v2 0 k_v0 k_v1 σ h
/-! X6_readDoor -/
theorem d_X6_readDoor_0 : kf_dq cX6_readDoor 0 1 1 (.aload_n 0) := ⟨by decide +kernel, rfl⟩
theorem d_X6_readDoor_1 : kf_dq cX6_readDoor 1 4 3 (.getfield 15) := ⟨by decide +kernel, rfl⟩
theorem d_X6_readDoor_4 : kf_dq cX6_readDoor 4 7 3 (.getfield 104) := ⟨by decide +kernel, rfl⟩
theorem d_X6_readDoor_7 : kf_dq cX6_readDoor 7 8 1 (.istore_n 1) := ⟨by decide +kernel, rfl⟩
theorem d_X6_readDoor_8 : kf_dq cX6_readDoor 8 9 1 (.iload_n 1) := ⟨by decide +kernel, rfl⟩
theorem d_X6_readDoor_9 : kf_dq cX6_readDoor 9 11 2 (.bipush 6) := ⟨by decide +kernel, rfl⟩
theorem d_X6_readDoor_11 : kf_dj cX6_readDoor 11 14 20 (.if_icmp .lt) := ⟨9, by decide +kernel, rfl, by decide⟩
theorem d_X6_readDoor_14 : kf_dq cX6_readDoor 14 15 1 (.aload_n 0) := ⟨by decide +kernel, rfl⟩
theorem d_X6_readDoor_15 : kf_dq cX6_readDoor 15 16 1 (.iconst 2) := ⟨by decide +kernel, rfl⟩
theorem d_X6_readDoor_16 : kf_dq cX6_readDoor 16 19 3 (.invokevirtual 97) := ⟨by decide +kernel, rfl⟩
theorem d_X6_readDoor_19 : kf_dq cX6_readDoor 19 20 1 (.return_) := ⟨by decide +kernel, rfl⟩
theorem d_X6_readDoor_20 : kf_dq cX6_readDoor 20 21 1 (.aload_n 0) := ⟨by decide +kernel, rfl⟩
theorem d_X6_readDoor_21 : kf_dq cX6_readDoor 21 24 3 (.sipush 256) := ⟨by decide +kernel, rfl⟩
theorem d_X6_readDoor_24 : kf_dq cX6_readDoor 24 27 3 (.invokevirtual 101) := ⟨by decide +kernel, rfl⟩
theorem d_X6_readDoor_27 : kf_dq cX6_readDoor 27 28 1 (.aload_n 0) := ⟨by decide +kernel, rfl⟩
theorem d_X6_readDoor_28 : kf_dq cX6_readDoor 28 31 3 (.getfield 15) := ⟨by decide +kernel, rfl⟩
theorem d_X6_readDoor_31 : kf_dq cX6_readDoor 31 34 3 (.getfield 107) := ⟨by decide +kernel, rfl⟩
theorem d_X6_readDoor_34 : kf_dq cX6_readDoor 34 35 1 (.iload_n 1) := ⟨by decide +kernel, rfl⟩
theorem d_X6_readDoor_35 : kf_dq cX6_readDoor 35 36 1 (.aload_n 0) := ⟨by decide +kernel, rfl⟩
theorem d_X6_readDoor_36 : kf_dq cX6_readDoor 36 39 3 (.invokevirtual 111) := ⟨by decide +kernel, rfl⟩
theorem d_X6_readDoor_39 : kf_dq cX6_readDoor 39 40 1 (.lastore) := ⟨by decide +kernel, rfl⟩
theorem d_X6_readDoor_40 : kf_dq cX6_readDoor 40 41 1 (.aload_n 0) := ⟨by decide +kernel, rfl⟩
theorem d_X6_readDoor_41 : kf_dq cX6_readDoor 41 42 1 (.aload_n 0) := ⟨by decide +kernel, rfl⟩
theorem d_X6_readDoor_42 : kf_dq cX6_readDoor 42 45 3 (.getfield 15) := ⟨by decide +kernel, rfl⟩
theorem d_X6_readDoor_45 : kf_dq cX6_readDoor 45 48 3 (.getfield 115) := ⟨by decide +kernel, rfl⟩
theorem d_X6_readDoor_48 : kf_dq cX6_readDoor 48 49 1 (.iload_n 1) := ⟨by decide +kernel, rfl⟩
theorem d_X6_readDoor_49 : kf_dq cX6_readDoor 49 52 3 (.invokevirtual 118) := ⟨by decide +kernel, rfl⟩
theorem d_X6_readDoor_52 : kf_dq cX6_readDoor 52 53 1 (.aload_n 0) := ⟨by decide +kernel, rfl⟩
theorem d_X6_readDoor_53 : kf_dq cX6_readDoor 53 56 3 (.getfield 15) := ⟨by decide +kernel, rfl⟩
theorem d_X6_readDoor_56 : kf_dq cX6_readDoor 56 57 1 (.iload_n 1) := ⟨by decide +kernel, rfl⟩
theorem d_X6_readDoor_57 : kf_dq cX6_readDoor 57 58 1 (.iconst 1) := ⟨by decide +kernel, rfl⟩
theorem d_X6_readDoor_58 : kf_dq cX6_readDoor 58 59 1 (.iadd) := ⟨by decide +kernel, rfl⟩
theorem d_X6_readDoor_59 : kf_dq cX6_readDoor 59 62 3 (.putfield 104) := ⟨by decide +kernel, rfl⟩
theorem d_X6_readDoor_62 : kf_dq cX6_readDoor 62 63 1 (.return_) := ⟨by decide +kernel, rfl⟩
def f_X6_readDoor (v0 : Nat) (σ : kf_St) : Option kf_St :=
  kf_lt ((σ.1 (kf_rf v0 3) 0)) fun v1_1 =>
  if v1_1 < 6 then
    (f_X6_take v0 256 σ).bind fun q_3 =>
    (f_X6_readNewName v0 q_3).bind fun q_4 =>
    if kf_ix v1_1 (kf_ln (kf_rf (kf_rf v0 3) 6)) = true then
    kf_lt (kf_wl q_4.2 (kf_rf (kf_rf v0 3) 6) (Int32.toNatClampNeg v1_1) q_4.1) fun σ_6 =>
    (f_X6_readFace v0 (kf_rf (kf_rf v0 3) 8) v1_1 σ_6).bind fun q_7 =>
    kf_lt (kf_wi q_7 (kf_rf v0 3) 0 (v1_1 + 1)) fun σ_8 =>
    some σ_8
    else none
  else
    (f_X6_fail v0 2 σ).bind fun q_9 =>
    some q_9
set_option maxRecDepth 100000 in
set_option maxHeartbeats 4000000 in
theorem c_X6_readDoor {G : kf_G} (hty : kf_wt G) (v0 : Nat) (k_v0 : kf_kd G v0 = 7) (σ : kf_St) {q : kf_St} (h : f_X6_readDoor v0 σ = some q) : kf_Ct (5) yX6_readDoor cX6_readDoor 2 none G [.ref (kf_ad G v0)] σ none q := by
  refine kf_Ct.of hty.1 (lv := [(0, .ref (kf_ad G v0))]) (by decide +kernel) rfl (Nat.le_of_ble_eq_true rfl) (fun X E => ?_)
  unfold f_X6_readDoor at h
  refine wa_aload_n 0 rfl E d_X6_readDoor_0 ?_
  refine wa_getR fl_X6_15 k_v0 rfl E d_X6_readDoor_1 ?_
  refine wa_getI fl_X6_104 (kf_wtf hty 3 10 k_v0 (by decide) rfl) rfl E d_X6_readDoor_4 ?_
  obtain ⟨v1_1, ev1_1, h⟩ := kf_lte h
  refine wa_topi ev1_1 ?_
  refine wa_istore_n (lv' := [(1, .int v1_1), (0, .ref (kf_ad G v0))]) rfl (by decide) rfl E d_X6_readDoor_7 ?_
  refine wa_iload_n 0 rfl E d_X6_readDoor_8 ?_
  refine wa_bipush 6 bp_6 E d_X6_readDoor_9 ?_
  refine wa_icmp_lt E d_X6_readDoor_11 (fun c_2 => ?_) (fun c_2 => ?_)
  · replace h := kf_ift c_2 h
    refine wa_aload_n 1 rfl E d_X6_readDoor_20 ?_
    refine wa_sipush 256 sp_256 E d_X6_readDoor_21 ?_
    obtain ⟨q_3, hq_3, h⟩ := kf_bd h
    refine wa_callV (st2 := []) (c_X6_take hty v0 256 k_v0 σ hq_3) mv_X6_take ml_X6_101 k_v0 rfl (Nat.le_of_ble_eq_true rfl) rfl (Nat.le_of_ble_eq_true rfl) E d_X6_readDoor_24 rfl ?_
    refine wa_aload_n 1 rfl E d_X6_readDoor_27 ?_
    refine wa_getR fl_X6_15 k_v0 rfl E d_X6_readDoor_28 ?_
    refine wa_getR fl_X6_107 (kf_wtf hty 3 10 k_v0 (by decide) rfl) rfl E d_X6_readDoor_31 ?_
    refine wa_iload_n 0 rfl E d_X6_readDoor_34 ?_
    refine wa_aload_n 1 rfl E d_X6_readDoor_35 ?_
    obtain ⟨q_4, hq_4, h⟩ := kf_bd h
    refine wa_callV (st2 := [.long q_4.1, .int v1_1, .ref (kf_ad G (kf_rf (kf_rf v0 3) 6))]) (c_X6_readNewName hty v0 k_v0 q_3 hq_4) mv_X6_readNewName ml_X6_111 k_v0 rfl (Nat.le_of_ble_eq_true rfl) rfl (Nat.le_of_ble_eq_true rfl) E d_X6_readDoor_36 rfl ?_
    obtain ⟨g_5, h⟩ := kf_gd h
    obtain ⟨σ_6, eσ_6, h⟩ := kf_lte h
    refine wa_last (kf_wtf hty 6 50 (kf_wtf hty 3 10 k_v0 (by decide) rfl) (by decide) rfl) g_5 E d_X6_readDoor_39 eσ_6 ?_
    refine wa_aload_n 1 rfl E d_X6_readDoor_40 ?_
    refine wa_aload_n 1 rfl E d_X6_readDoor_41 ?_
    refine wa_getR fl_X6_15 k_v0 rfl E d_X6_readDoor_42 ?_
    refine wa_getR fl_X6_115 (kf_wtf hty 3 10 k_v0 (by decide) rfl) rfl E d_X6_readDoor_45 ?_
    refine wa_iload_n 0 rfl E d_X6_readDoor_48 ?_
    obtain ⟨q_7, hq_7, h⟩ := kf_bd h
    refine wa_callV (st2 := []) (c_X6_readFace hty v0 (kf_rf (kf_rf v0 3) 8) v1_1 k_v0 (kf_wtf hty 8 49 (kf_wtf hty 3 10 k_v0 (by decide) rfl) (by decide) rfl) σ_6 hq_7) mv_X6_readFace ml_X6_118 k_v0 rfl (Nat.le_of_ble_eq_true rfl) rfl (Nat.le_of_ble_eq_true rfl) E d_X6_readDoor_49 rfl ?_
    refine wa_aload_n 1 rfl E d_X6_readDoor_52 ?_
    refine wa_getR fl_X6_15 k_v0 rfl E d_X6_readDoor_53 ?_
    refine wa_iload_n 0 rfl E d_X6_readDoor_56 ?_
    refine wa_iconst 1 ic_1 E d_X6_readDoor_57 ?_
    refine wa_iadd E d_X6_readDoor_58 ?_
    obtain ⟨σ_8, eσ_8, h⟩ := kf_lte h
    refine wa_putI fl_X6_104 fp_10_0 (kf_wtf hty 3 10 k_v0 (by decide) rfl) rfl (by decide) rfl rfl E d_X6_readDoor_59 eσ_8 ?_
    cases h
    exact wa_vret E d_X6_readDoor_62
  · replace h := kf_iff c_2 h
    refine wa_aload_n 1 rfl E d_X6_readDoor_14 ?_
    refine wa_iconst 2 ic_2 E d_X6_readDoor_15 ?_
    obtain ⟨q_9, hq_9, h⟩ := kf_bd h
    refine wa_callV (st2 := []) (c_X6_fail hty v0 2 k_v0 σ hq_9) mv_X6_fail ml_X6_97 k_v0 rfl (Nat.le_of_ble_eq_true rfl) rfl (Nat.le_of_ble_eq_true rfl) E d_X6_readDoor_16 rfl ?_
    cases h
    exact wa_vret E d_X6_readDoor_19
/-! X6_readCaller -/
theorem d_X6_readCaller_0 : kf_dq cX6_readCaller 0 1 1 (.aload_n 0) := ⟨by decide +kernel, rfl⟩
theorem d_X6_readCaller_1 : kf_dq cX6_readCaller 1 4 3 (.getfield 15) := ⟨by decide +kernel, rfl⟩
theorem d_X6_readCaller_4 : kf_dq cX6_readCaller 4 7 3 (.getfield 122) := ⟨by decide +kernel, rfl⟩
theorem d_X6_readCaller_7 : kf_dq cX6_readCaller 7 8 1 (.istore_n 1) := ⟨by decide +kernel, rfl⟩
theorem d_X6_readCaller_8 : kf_dq cX6_readCaller 8 9 1 (.iload_n 1) := ⟨by decide +kernel, rfl⟩
theorem d_X6_readCaller_9 : kf_dq cX6_readCaller 9 10 1 (.iconst 5) := ⟨by decide +kernel, rfl⟩
theorem d_X6_readCaller_10 : kf_dj cX6_readCaller 10 13 19 (.if_icmp .lt) := ⟨9, by decide +kernel, rfl, by decide⟩
theorem d_X6_readCaller_13 : kf_dq cX6_readCaller 13 14 1 (.aload_n 0) := ⟨by decide +kernel, rfl⟩
theorem d_X6_readCaller_14 : kf_dq cX6_readCaller 14 15 1 (.iconst 2) := ⟨by decide +kernel, rfl⟩
theorem d_X6_readCaller_15 : kf_dq cX6_readCaller 15 18 3 (.invokevirtual 97) := ⟨by decide +kernel, rfl⟩
theorem d_X6_readCaller_18 : kf_dq cX6_readCaller 18 19 1 (.return_) := ⟨by decide +kernel, rfl⟩
theorem d_X6_readCaller_19 : kf_dq cX6_readCaller 19 20 1 (.aload_n 0) := ⟨by decide +kernel, rfl⟩
theorem d_X6_readCaller_20 : kf_dq cX6_readCaller 20 23 3 (.sipush 257) := ⟨by decide +kernel, rfl⟩
theorem d_X6_readCaller_23 : kf_dq cX6_readCaller 23 26 3 (.invokevirtual 101) := ⟨by decide +kernel, rfl⟩
theorem d_X6_readCaller_26 : kf_dq cX6_readCaller 26 27 1 (.aload_n 0) := ⟨by decide +kernel, rfl⟩
theorem d_X6_readCaller_27 : kf_dq cX6_readCaller 27 30 3 (.getfield 15) := ⟨by decide +kernel, rfl⟩
theorem d_X6_readCaller_30 : kf_dq cX6_readCaller 30 33 3 (.getfield 125) := ⟨by decide +kernel, rfl⟩
theorem d_X6_readCaller_33 : kf_dq cX6_readCaller 33 34 1 (.iload_n 1) := ⟨by decide +kernel, rfl⟩
theorem d_X6_readCaller_34 : kf_dq cX6_readCaller 34 35 1 (.aload_n 0) := ⟨by decide +kernel, rfl⟩
theorem d_X6_readCaller_35 : kf_dq cX6_readCaller 35 38 3 (.invokevirtual 111) := ⟨by decide +kernel, rfl⟩
theorem d_X6_readCaller_38 : kf_dq cX6_readCaller 38 39 1 (.lastore) := ⟨by decide +kernel, rfl⟩
theorem d_X6_readCaller_39 : kf_dq cX6_readCaller 39 40 1 (.aload_n 0) := ⟨by decide +kernel, rfl⟩
theorem d_X6_readCaller_40 : kf_dq cX6_readCaller 40 41 1 (.aload_n 0) := ⟨by decide +kernel, rfl⟩
theorem d_X6_readCaller_41 : kf_dq cX6_readCaller 41 44 3 (.getfield 15) := ⟨by decide +kernel, rfl⟩
theorem d_X6_readCaller_44 : kf_dq cX6_readCaller 44 47 3 (.getfield 128) := ⟨by decide +kernel, rfl⟩
theorem d_X6_readCaller_47 : kf_dq cX6_readCaller 47 48 1 (.iload_n 1) := ⟨by decide +kernel, rfl⟩
theorem d_X6_readCaller_48 : kf_dq cX6_readCaller 48 51 3 (.invokevirtual 118) := ⟨by decide +kernel, rfl⟩
theorem d_X6_readCaller_51 : kf_dq cX6_readCaller 51 52 1 (.aload_n 0) := ⟨by decide +kernel, rfl⟩
theorem d_X6_readCaller_52 : kf_dq cX6_readCaller 52 55 3 (.getfield 15) := ⟨by decide +kernel, rfl⟩
theorem d_X6_readCaller_55 : kf_dq cX6_readCaller 55 56 1 (.iload_n 1) := ⟨by decide +kernel, rfl⟩
theorem d_X6_readCaller_56 : kf_dq cX6_readCaller 56 57 1 (.iconst 1) := ⟨by decide +kernel, rfl⟩
theorem d_X6_readCaller_57 : kf_dq cX6_readCaller 57 58 1 (.iadd) := ⟨by decide +kernel, rfl⟩
theorem d_X6_readCaller_58 : kf_dq cX6_readCaller 58 61 3 (.putfield 122) := ⟨by decide +kernel, rfl⟩
theorem d_X6_readCaller_61 : kf_dq cX6_readCaller 61 62 1 (.return_) := ⟨by decide +kernel, rfl⟩
def f_X6_readCaller (v0 : Nat) (σ : kf_St) : Option kf_St :=
  kf_lt ((σ.1 (kf_rf v0 3) 1)) fun v1_1 =>
  if v1_1 < 5 then
    (f_X6_take v0 257 σ).bind fun q_3 =>
    (f_X6_readNewName v0 q_3).bind fun q_4 =>
    if kf_ix v1_1 (kf_ln (kf_rf (kf_rf v0 3) 7)) = true then
    kf_lt (kf_wl q_4.2 (kf_rf (kf_rf v0 3) 7) (Int32.toNatClampNeg v1_1) q_4.1) fun σ_6 =>
    (f_X6_readFace v0 (kf_rf (kf_rf v0 3) 9) v1_1 σ_6).bind fun q_7 =>
    kf_lt (kf_wi q_7 (kf_rf v0 3) 1 (v1_1 + 1)) fun σ_8 =>
    some σ_8
    else none
  else
    (f_X6_fail v0 2 σ).bind fun q_9 =>
    some q_9
set_option maxRecDepth 100000 in
set_option maxHeartbeats 4000000 in
theorem c_X6_readCaller {G : kf_G} (hty : kf_wt G) (v0 : Nat) (k_v0 : kf_kd G v0 = 7) (σ : kf_St) {q : kf_St} (h : f_X6_readCaller v0 σ = some q) : kf_Ct (5) yX6_readCaller cX6_readCaller 2 none G [.ref (kf_ad G v0)] σ none q := by
  refine kf_Ct.of hty.1 (lv := [(0, .ref (kf_ad G v0))]) (by decide +kernel) rfl (Nat.le_of_ble_eq_true rfl) (fun X E => ?_)
  unfold f_X6_readCaller at h
  refine wa_aload_n 0 rfl E d_X6_readCaller_0 ?_
  refine wa_getR fl_X6_15 k_v0 rfl E d_X6_readCaller_1 ?_
  refine wa_getI fl_X6_122 (kf_wtf hty 3 10 k_v0 (by decide) rfl) rfl E d_X6_readCaller_4 ?_
  obtain ⟨v1_1, ev1_1, h⟩ := kf_lte h
  refine wa_topi ev1_1 ?_
  refine wa_istore_n (lv' := [(1, .int v1_1), (0, .ref (kf_ad G v0))]) rfl (by decide) rfl E d_X6_readCaller_7 ?_
  refine wa_iload_n 0 rfl E d_X6_readCaller_8 ?_
  refine wa_iconst 5 ic_5 E d_X6_readCaller_9 ?_
  refine wa_icmp_lt E d_X6_readCaller_10 (fun c_2 => ?_) (fun c_2 => ?_)
  · replace h := kf_ift c_2 h
    refine wa_aload_n 1 rfl E d_X6_readCaller_19 ?_
    refine wa_sipush 257 sp_257 E d_X6_readCaller_20 ?_
    obtain ⟨q_3, hq_3, h⟩ := kf_bd h
    refine wa_callV (st2 := []) (c_X6_take hty v0 257 k_v0 σ hq_3) mv_X6_take ml_X6_101 k_v0 rfl (Nat.le_of_ble_eq_true rfl) rfl (Nat.le_of_ble_eq_true rfl) E d_X6_readCaller_23 rfl ?_
    refine wa_aload_n 1 rfl E d_X6_readCaller_26 ?_
    refine wa_getR fl_X6_15 k_v0 rfl E d_X6_readCaller_27 ?_
    refine wa_getR fl_X6_125 (kf_wtf hty 3 10 k_v0 (by decide) rfl) rfl E d_X6_readCaller_30 ?_
    refine wa_iload_n 0 rfl E d_X6_readCaller_33 ?_
    refine wa_aload_n 1 rfl E d_X6_readCaller_34 ?_
    obtain ⟨q_4, hq_4, h⟩ := kf_bd h
    refine wa_callV (st2 := [.long q_4.1, .int v1_1, .ref (kf_ad G (kf_rf (kf_rf v0 3) 7))]) (c_X6_readNewName hty v0 k_v0 q_3 hq_4) mv_X6_readNewName ml_X6_111 k_v0 rfl (Nat.le_of_ble_eq_true rfl) rfl (Nat.le_of_ble_eq_true rfl) E d_X6_readCaller_35 rfl ?_
    obtain ⟨g_5, h⟩ := kf_gd h
    obtain ⟨σ_6, eσ_6, h⟩ := kf_lte h
    refine wa_last (kf_wtf hty 7 50 (kf_wtf hty 3 10 k_v0 (by decide) rfl) (by decide) rfl) g_5 E d_X6_readCaller_38 eσ_6 ?_
    refine wa_aload_n 1 rfl E d_X6_readCaller_39 ?_
    refine wa_aload_n 1 rfl E d_X6_readCaller_40 ?_
    refine wa_getR fl_X6_15 k_v0 rfl E d_X6_readCaller_41 ?_
    refine wa_getR fl_X6_128 (kf_wtf hty 3 10 k_v0 (by decide) rfl) rfl E d_X6_readCaller_44 ?_
    refine wa_iload_n 0 rfl E d_X6_readCaller_47 ?_
    obtain ⟨q_7, hq_7, h⟩ := kf_bd h
    refine wa_callV (st2 := []) (c_X6_readFace hty v0 (kf_rf (kf_rf v0 3) 9) v1_1 k_v0 (kf_wtf hty 9 49 (kf_wtf hty 3 10 k_v0 (by decide) rfl) (by decide) rfl) σ_6 hq_7) mv_X6_readFace ml_X6_118 k_v0 rfl (Nat.le_of_ble_eq_true rfl) rfl (Nat.le_of_ble_eq_true rfl) E d_X6_readCaller_48 rfl ?_
    refine wa_aload_n 1 rfl E d_X6_readCaller_51 ?_
    refine wa_getR fl_X6_15 k_v0 rfl E d_X6_readCaller_52 ?_
    refine wa_iload_n 0 rfl E d_X6_readCaller_55 ?_
    refine wa_iconst 1 ic_1 E d_X6_readCaller_56 ?_
    refine wa_iadd E d_X6_readCaller_57 ?_
    obtain ⟨σ_8, eσ_8, h⟩ := kf_lte h
    refine wa_putI fl_X6_122 fp_10_1 (kf_wtf hty 3 10 k_v0 (by decide) rfl) rfl (by decide) rfl rfl E d_X6_readCaller_58 eσ_8 ?_
    cases h
    exact wa_vret E d_X6_readCaller_61
  · replace h := kf_iff c_2 h
    refine wa_aload_n 1 rfl E d_X6_readCaller_13 ?_
    refine wa_iconst 2 ic_2 E d_X6_readCaller_14 ?_
    obtain ⟨q_9, hq_9, h⟩ := kf_bd h
    refine wa_callV (st2 := []) (c_X6_fail hty v0 2 k_v0 σ hq_9) mv_X6_fail ml_X6_97 k_v0 rfl (Nat.le_of_ble_eq_true rfl) rfl (Nat.le_of_ble_eq_true rfl) E d_X6_readCaller_15 rfl ?_
    cases h
    exact wa_vret E d_X6_readCaller_18
/-! X6_readKnownName -/
theorem d_X6_readKnownName_0 : kf_dq cX6_readKnownName 0 1 1 (.aload_n 0) := ⟨by decide +kernel, rfl⟩
theorem d_X6_readKnownName_1 : kf_dq cX6_readKnownName 1 4 3 (.getfield 9) := ⟨by decide +kernel, rfl⟩
theorem d_X6_readKnownName_4 : kf_dq cX6_readKnownName 4 5 1 (.aload_n 0) := ⟨by decide +kernel, rfl⟩
theorem d_X6_readKnownName_5 : kf_dq cX6_readKnownName 5 8 3 (.getfield 33) := ⟨by decide +kernel, rfl⟩
theorem d_X6_readKnownName_8 : kf_dq cX6_readKnownName 8 11 3 (.invokevirtual 154) := ⟨by decide +kernel, rfl⟩
theorem d_X6_readKnownName_11 : kf_dq cX6_readKnownName 11 12 1 (.aload_n 1) := ⟨by decide +kernel, rfl⟩
theorem d_X6_readKnownName_12 : kf_dq cX6_readKnownName 12 13 1 (.iload_n 2) := ⟨by decide +kernel, rfl⟩
theorem d_X6_readKnownName_13 : kf_dq cX6_readKnownName 13 16 3 (.invokestatic 161) := ⟨by decide +kernel, rfl⟩
theorem d_X6_readKnownName_16 : kf_dq cX6_readKnownName 16 17 1 (.istore_n 3) := ⟨by decide +kernel, rfl⟩
theorem d_X6_readKnownName_17 : kf_dq cX6_readKnownName 17 18 1 (.iload_n 3) := ⟨by decide +kernel, rfl⟩
theorem d_X6_readKnownName_18 : kf_dj cX6_readKnownName 18 21 26 (.ifCond .ge) := ⟨8, by decide +kernel, rfl, by decide⟩
theorem d_X6_readKnownName_21 : kf_dq cX6_readKnownName 21 22 1 (.aload_n 0) := ⟨by decide +kernel, rfl⟩
theorem d_X6_readKnownName_22 : kf_dq cX6_readKnownName 22 23 1 (.iconst 4) := ⟨by decide +kernel, rfl⟩
theorem d_X6_readKnownName_23 : kf_dq cX6_readKnownName 23 26 3 (.invokevirtual 158) := ⟨by decide +kernel, rfl⟩
theorem d_X6_readKnownName_26 : kf_dq cX6_readKnownName 26 27 1 (.aload_n 0) := ⟨by decide +kernel, rfl⟩
theorem d_X6_readKnownName_27 : kf_dq cX6_readKnownName 27 28 1 (.iconst 2) := ⟨by decide +kernel, rfl⟩
theorem d_X6_readKnownName_28 : kf_dq cX6_readKnownName 28 31 3 (.invokevirtual 101) := ⟨by decide +kernel, rfl⟩
theorem d_X6_readKnownName_31 : kf_dq cX6_readKnownName 31 32 1 (.iload_n 3) := ⟨by decide +kernel, rfl⟩
theorem d_X6_readKnownName_32 : kf_dj cX6_readKnownName 32 35 39 (.ifCond .ge) := ⟨7, by decide +kernel, rfl, by decide⟩
theorem d_X6_readKnownName_35 : kf_dq cX6_readKnownName 35 36 1 (.iconst 0) := ⟨by decide +kernel, rfl⟩
theorem d_X6_readKnownName_36 : kf_dj cX6_readKnownName 36 39 40 .goto := ⟨4, by decide +kernel, rfl, by decide⟩
theorem d_X6_readKnownName_39 : kf_dq cX6_readKnownName 39 40 1 (.iload_n 3) := ⟨by decide +kernel, rfl⟩
theorem d_X6_readKnownName_40 : kf_dq cX6_readKnownName 40 41 1 (.ireturn) := ⟨by decide +kernel, rfl⟩
def f_X6_readKnownName_26 (v0 : Nat) (v3 : Int32) (σ : kf_St) : Option (Int32 × kf_St) :=
  (f_X6_take v0 2 σ).bind fun q_1 =>
  if 0 ≤ v3 then
    some (v3, q_1)
  else
    some (0, q_1)
set_option maxRecDepth 100000 in
set_option maxHeartbeats 4000000 in
theorem b_X6_readKnownName_26 {X : kf_X} {G : kf_G} {q : (Int32 × kf_St)} (E : kf_ok X G cX6_readKnownName RX6 4 (some .int) (3)) (hty : kf_wt G) (v0 : Nat) (v3 : Int32) (k_v0 : kf_kd G v0 = 7) (σ : kf_St) (h : f_X6_readKnownName_26 v0 v3 σ = some q) : kf_WA X G 4 (kf_Q X G (some (.int q.1)) q.2) 26 [(0, .ref (kf_ad G v0)), (3, .int v3)] [] σ := by
  unfold f_X6_readKnownName_26 at h
  refine wa_aload_n 0 rfl E d_X6_readKnownName_26 ?_
  refine wa_iconst 2 ic_2 E d_X6_readKnownName_27 ?_
  obtain ⟨q_1, hq_1, h⟩ := kf_bd h
  refine wa_callV (st2 := []) (c_X6_take hty v0 2 k_v0 σ hq_1) mv_X6_take ml_X6_101 k_v0 rfl (Nat.le_of_ble_eq_true rfl) rfl (Nat.le_of_ble_eq_true rfl) E d_X6_readKnownName_28 rfl ?_
  refine wa_iload_n 1 rfl E d_X6_readKnownName_31 ?_
  refine wa_if_ge E d_X6_readKnownName_32 (fun c_2 => ?_) (fun c_2 => ?_)
  · replace h := kf_ift c_2 h
    refine wa_iload_n 1 rfl E d_X6_readKnownName_39 ?_
    cases h
    exact wa_iret E d_X6_readKnownName_40
  · replace h := kf_iff c_2 h
    refine wa_iconst 0 ic_0 E d_X6_readKnownName_35 ?_
    refine wa_goto E d_X6_readKnownName_36 ?_
    cases h
    exact wa_iret E d_X6_readKnownName_40
def f_X6_readKnownName (v0 : Nat) (v1 : Nat) (v2 : Int32) (σ : kf_St) : Option (Int32 × kf_St) :=
  (f_X8_valueAt (kf_rf v0 2) (σ.1 v0 4) σ).bind fun q_1 =>
  (f_X10_rowOf q_1.1 v1 v2 q_1.2).bind fun q_2 =>
  if 0 ≤ q_2.1 then
    f_X6_readKnownName_26 v0 q_2.1 q_2.2
  else
    (f_X6_noteSlip v0 4 q_2.2).bind fun q_4 =>
    f_X6_readKnownName_26 v0 q_2.1 q_4
set_option maxRecDepth 100000 in
set_option maxHeartbeats 4000000 in
theorem c_X6_readKnownName {G : kf_G} (hty : kf_wt G) (v0 : Nat) (v1 : Nat) (v2 : Int32) (k_v0 : kf_kd G v0 = 7) (k_v1 : kf_kd G v1 = 51) (σ : kf_St) {q : (Int32 × kf_St)} (h : f_X6_readKnownName v0 v1 v2 σ = some q) : kf_Ct (3) yX6_readKnownName cX6_readKnownName 4 (some .int) G [.ref (kf_ad G v0), .ref (kf_ad G v1), .int v2] σ (some (.int q.1)) q.2 := by
  refine kf_Ct.of hty.1 (lv := [(0, .ref (kf_ad G v0)), (1, .ref (kf_ad G v1)), (2, .int v2)]) (by decide +kernel) rfl (Nat.le_of_ble_eq_true rfl) (fun X E => ?_)
  unfold f_X6_readKnownName at h
  refine wa_aload_n 0 rfl E d_X6_readKnownName_0 ?_
  refine wa_getR fl_X6_9 k_v0 rfl E d_X6_readKnownName_1 ?_
  refine wa_aload_n 0 rfl E d_X6_readKnownName_4 ?_
  refine wa_getI fl_X6_33 k_v0 rfl E d_X6_readKnownName_5 ?_
  obtain ⟨q_1, hq_1, h⟩ := kf_bd h
  refine wa_callV (st2 := [.long q_1.1]) (c_X8_valueAt hty (kf_rf v0 2) (σ.1 v0 4) (kf_wtf hty 2 8 k_v0 (by decide) rfl) σ hq_1) mv_X8_valueAt ml_X6_154 (kf_wtf hty 2 8 k_v0 (by decide) rfl) rfl (Nat.le_of_ble_eq_true rfl) rfl (Nat.le_of_ble_eq_true rfl) E d_X6_readKnownName_8 rfl ?_
  refine wa_aload_n 1 rfl E d_X6_readKnownName_11 ?_
  refine wa_iload_n 2 rfl E d_X6_readKnownName_12 ?_
  obtain ⟨q_2, hq_2, h⟩ := kf_bd h
  refine wa_callS (st2 := [.int q_2.1]) (c_X10_rowOf hty q_1.1 v1 v2 k_v1 q_1.2 hq_2) mt_X10_rowOf ml_X6_161 rfl (Nat.le_of_ble_eq_true rfl) rfl (Nat.le_of_ble_eq_true rfl) E d_X6_readKnownName_13 rfl ?_
  refine wa_istore_n (lv' := [(3, .int q_2.1), (0, .ref (kf_ad G v0)), (1, .ref (kf_ad G v1)), (2, .int v2)]) rfl (by decide) rfl E d_X6_readKnownName_16 ?_
  refine wa_iload_n 0 rfl E d_X6_readKnownName_17 ?_
  refine wa_if_ge E d_X6_readKnownName_18 (fun c_3 => ?_) (fun c_3 => ?_)
  · replace h := kf_ift c_3 h
    refine wa_sub [1, 0] rfl ?_
    exact b_X6_readKnownName_26 E hty v0 q_2.1 k_v0 q_2.2 h
  · replace h := kf_iff c_3 h
    refine wa_aload_n 1 rfl E d_X6_readKnownName_21 ?_
    refine wa_iconst 4 ic_4 E d_X6_readKnownName_22 ?_
    obtain ⟨q_4, hq_4, h⟩ := kf_bd h
    refine wa_callV (st2 := []) (c_X6_noteSlip hty v0 4 k_v0 q_2.2 hq_4) mv_X6_noteSlip ml_X6_158 k_v0 rfl (Nat.le_of_ble_eq_true rfl) rfl (Nat.le_of_ble_eq_true rfl) E d_X6_readKnownName_23 rfl ?_
    refine wa_sub [1, 0] rfl ?_
    exact b_X6_readKnownName_26 E hty v0 q_2.1 k_v0 q_4 h
/-! X6_readRound -/
theorem d_X6_readRound_0 : kf_dq cX6_readRound 0 1 1 (.aload_n 0) := ⟨by decide +kernel, rfl⟩
theorem d_X6_readRound_1 : kf_dq cX6_readRound 1 4 3 (.getfield 15) := ⟨by decide +kernel, rfl⟩
theorem d_X6_readRound_4 : kf_dq cX6_readRound 4 7 3 (.getfield 131) := ⟨by decide +kernel, rfl⟩
theorem d_X6_readRound_7 : kf_dq cX6_readRound 7 8 1 (.istore_n 1) := ⟨by decide +kernel, rfl⟩
theorem d_X6_readRound_8 : kf_dq cX6_readRound 8 9 1 (.iload_n 1) := ⟨by decide +kernel, rfl⟩
theorem d_X6_readRound_9 : kf_dq cX6_readRound 9 11 2 (.bipush 10) := ⟨by decide +kernel, rfl⟩
theorem d_X6_readRound_11 : kf_dj cX6_readRound 11 14 20 (.if_icmp .lt) := ⟨9, by decide +kernel, rfl, by decide⟩
theorem d_X6_readRound_14 : kf_dq cX6_readRound 14 15 1 (.aload_n 0) := ⟨by decide +kernel, rfl⟩
theorem d_X6_readRound_15 : kf_dq cX6_readRound 15 16 1 (.iconst 2) := ⟨by decide +kernel, rfl⟩
theorem d_X6_readRound_16 : kf_dq cX6_readRound 16 19 3 (.invokevirtual 97) := ⟨by decide +kernel, rfl⟩
theorem d_X6_readRound_19 : kf_dq cX6_readRound 19 20 1 (.return_) := ⟨by decide +kernel, rfl⟩
theorem d_X6_readRound_20 : kf_dq cX6_readRound 20 21 1 (.aload_n 0) := ⟨by decide +kernel, rfl⟩
theorem d_X6_readRound_21 : kf_dq cX6_readRound 21 24 3 (.sipush 258) := ⟨by decide +kernel, rfl⟩
theorem d_X6_readRound_24 : kf_dq cX6_readRound 24 27 3 (.invokevirtual 101) := ⟨by decide +kernel, rfl⟩
theorem d_X6_readRound_27 : kf_dq cX6_readRound 27 28 1 (.aload_n 0) := ⟨by decide +kernel, rfl⟩
theorem d_X6_readRound_28 : kf_dq cX6_readRound 28 31 3 (.getfield 15) := ⟨by decide +kernel, rfl⟩
theorem d_X6_readRound_31 : kf_dq cX6_readRound 31 34 3 (.getfield 134) := ⟨by decide +kernel, rfl⟩
theorem d_X6_readRound_34 : kf_dq cX6_readRound 34 35 1 (.iload_n 1) := ⟨by decide +kernel, rfl⟩
theorem d_X6_readRound_35 : kf_dq cX6_readRound 35 36 1 (.aload_n 0) := ⟨by decide +kernel, rfl⟩
theorem d_X6_readRound_36 : kf_dq cX6_readRound 36 37 1 (.aload_n 0) := ⟨by decide +kernel, rfl⟩
theorem d_X6_readRound_37 : kf_dq cX6_readRound 37 40 3 (.getfield 15) := ⟨by decide +kernel, rfl⟩
theorem d_X6_readRound_40 : kf_dq cX6_readRound 40 43 3 (.getfield 125) := ⟨by decide +kernel, rfl⟩
theorem d_X6_readRound_43 : kf_dq cX6_readRound 43 44 1 (.aload_n 0) := ⟨by decide +kernel, rfl⟩
theorem d_X6_readRound_44 : kf_dq cX6_readRound 44 47 3 (.getfield 15) := ⟨by decide +kernel, rfl⟩
theorem d_X6_readRound_47 : kf_dq cX6_readRound 47 50 3 (.getfield 122) := ⟨by decide +kernel, rfl⟩
theorem d_X6_readRound_50 : kf_dq cX6_readRound 50 53 3 (.invokevirtual 137) := ⟨by decide +kernel, rfl⟩
theorem d_X6_readRound_53 : kf_dq cX6_readRound 53 54 1 (.iastore) := ⟨by decide +kernel, rfl⟩
theorem d_X6_readRound_54 : kf_dq cX6_readRound 54 55 1 (.aload_n 0) := ⟨by decide +kernel, rfl⟩
theorem d_X6_readRound_55 : kf_dq cX6_readRound 55 58 3 (.getfield 15) := ⟨by decide +kernel, rfl⟩
theorem d_X6_readRound_58 : kf_dq cX6_readRound 58 61 3 (.getfield 141) := ⟨by decide +kernel, rfl⟩
theorem d_X6_readRound_61 : kf_dq cX6_readRound 61 62 1 (.iload_n 1) := ⟨by decide +kernel, rfl⟩
theorem d_X6_readRound_62 : kf_dq cX6_readRound 62 63 1 (.aload_n 0) := ⟨by decide +kernel, rfl⟩
theorem d_X6_readRound_63 : kf_dq cX6_readRound 63 64 1 (.aload_n 0) := ⟨by decide +kernel, rfl⟩
theorem d_X6_readRound_64 : kf_dq cX6_readRound 64 67 3 (.getfield 15) := ⟨by decide +kernel, rfl⟩
theorem d_X6_readRound_67 : kf_dq cX6_readRound 67 70 3 (.getfield 107) := ⟨by decide +kernel, rfl⟩
theorem d_X6_readRound_70 : kf_dq cX6_readRound 70 71 1 (.aload_n 0) := ⟨by decide +kernel, rfl⟩
theorem d_X6_readRound_71 : kf_dq cX6_readRound 71 74 3 (.getfield 15) := ⟨by decide +kernel, rfl⟩
theorem d_X6_readRound_74 : kf_dq cX6_readRound 74 77 3 (.getfield 104) := ⟨by decide +kernel, rfl⟩
theorem d_X6_readRound_77 : kf_dq cX6_readRound 77 80 3 (.invokevirtual 137) := ⟨by decide +kernel, rfl⟩
theorem d_X6_readRound_80 : kf_dq cX6_readRound 80 81 1 (.iastore) := ⟨by decide +kernel, rfl⟩
theorem d_X6_readRound_81 : kf_dq cX6_readRound 81 82 1 (.aload_n 0) := ⟨by decide +kernel, rfl⟩
theorem d_X6_readRound_82 : kf_dq cX6_readRound 82 85 3 (.getfield 15) := ⟨by decide +kernel, rfl⟩
theorem d_X6_readRound_85 : kf_dq cX6_readRound 85 88 3 (.getfield 144) := ⟨by decide +kernel, rfl⟩
theorem d_X6_readRound_88 : kf_dq cX6_readRound 88 89 1 (.iload_n 1) := ⟨by decide +kernel, rfl⟩
theorem d_X6_readRound_89 : kf_dq cX6_readRound 89 90 1 (.aload_n 0) := ⟨by decide +kernel, rfl⟩
theorem d_X6_readRound_90 : kf_dq cX6_readRound 90 91 1 (.iconst 1) := ⟨by decide +kernel, rfl⟩
theorem d_X6_readRound_91 : kf_dq cX6_readRound 91 93 2 (.bipush 30) := ⟨by decide +kernel, rfl⟩
theorem d_X6_readRound_93 : kf_dq cX6_readRound 93 96 3 (.invokevirtual 147) := ⟨by decide +kernel, rfl⟩
theorem d_X6_readRound_96 : kf_dq cX6_readRound 96 97 1 (.iastore) := ⟨by decide +kernel, rfl⟩
theorem d_X6_readRound_97 : kf_dq cX6_readRound 97 98 1 (.aload_n 0) := ⟨by decide +kernel, rfl⟩
theorem d_X6_readRound_98 : kf_dq cX6_readRound 98 101 3 (.getfield 15) := ⟨by decide +kernel, rfl⟩
theorem d_X6_readRound_101 : kf_dq cX6_readRound 101 104 3 (.getfield 151) := ⟨by decide +kernel, rfl⟩
theorem d_X6_readRound_104 : kf_dq cX6_readRound 104 105 1 (.iload_n 1) := ⟨by decide +kernel, rfl⟩
theorem d_X6_readRound_105 : kf_dq cX6_readRound 105 106 1 (.aload_n 0) := ⟨by decide +kernel, rfl⟩
theorem d_X6_readRound_106 : kf_dq cX6_readRound 106 107 1 (.iconst 0) := ⟨by decide +kernel, rfl⟩
theorem d_X6_readRound_107 : kf_dq cX6_readRound 107 109 2 (.bipush 29) := ⟨by decide +kernel, rfl⟩
theorem d_X6_readRound_109 : kf_dq cX6_readRound 109 112 3 (.invokevirtual 147) := ⟨by decide +kernel, rfl⟩
theorem d_X6_readRound_112 : kf_dq cX6_readRound 112 113 1 (.iastore) := ⟨by decide +kernel, rfl⟩
theorem d_X6_readRound_113 : kf_dq cX6_readRound 113 114 1 (.aload_n 0) := ⟨by decide +kernel, rfl⟩
theorem d_X6_readRound_114 : kf_dq cX6_readRound 114 117 3 (.getfield 15) := ⟨by decide +kernel, rfl⟩
theorem d_X6_readRound_117 : kf_dq cX6_readRound 117 118 1 (.iload_n 1) := ⟨by decide +kernel, rfl⟩
theorem d_X6_readRound_118 : kf_dq cX6_readRound 118 119 1 (.iconst 1) := ⟨by decide +kernel, rfl⟩
theorem d_X6_readRound_119 : kf_dq cX6_readRound 119 120 1 (.iadd) := ⟨by decide +kernel, rfl⟩
theorem d_X6_readRound_120 : kf_dq cX6_readRound 120 123 3 (.putfield 131) := ⟨by decide +kernel, rfl⟩
theorem d_X6_readRound_123 : kf_dq cX6_readRound 123 124 1 (.return_) := ⟨by decide +kernel, rfl⟩
def f_X6_readRound (v0 : Nat) (σ : kf_St) : Option kf_St :=
  kf_lt ((σ.1 (kf_rf v0 3) 2)) fun v1_1 =>
  if v1_1 < 10 then
    (f_X6_take v0 258 σ).bind fun q_3 =>
    (f_X6_readKnownName v0 (kf_rf (kf_rf v0 3) 7) (q_3.1 (kf_rf v0 3) 1) q_3).bind fun q_4 =>
    if kf_ix v1_1 (kf_ln (kf_rf (kf_rf v0 3) 10)) = true then
    kf_lt (kf_wi q_4.2 (kf_rf (kf_rf v0 3) 10) (Int32.toNatClampNeg v1_1) q_4.1) fun σ_6 =>
    (f_X6_readKnownName v0 (kf_rf (kf_rf v0 3) 6) (σ_6.1 (kf_rf v0 3) 0) σ_6).bind fun q_7 =>
    if kf_ix v1_1 (kf_ln (kf_rf (kf_rf v0 3) 11)) = true then
    kf_lt (kf_wi q_7.2 (kf_rf (kf_rf v0 3) 11) (Int32.toNatClampNeg v1_1) q_7.1) fun σ_9 =>
    (f_X6_readNumber v0 1 30 σ_9).bind fun q_10 =>
    if kf_ix v1_1 (kf_ln (kf_rf (kf_rf v0 3) 12)) = true then
    kf_lt (kf_wi q_10.2 (kf_rf (kf_rf v0 3) 12) (Int32.toNatClampNeg v1_1) q_10.1) fun σ_12 =>
    (f_X6_readNumber v0 0 29 σ_12).bind fun q_13 =>
    if kf_ix v1_1 (kf_ln (kf_rf (kf_rf v0 3) 13)) = true then
    kf_lt (kf_wi q_13.2 (kf_rf (kf_rf v0 3) 13) (Int32.toNatClampNeg v1_1) q_13.1) fun σ_15 =>
    kf_lt (kf_wi σ_15 (kf_rf v0 3) 2 (v1_1 + 1)) fun σ_16 =>
    some σ_16
    else none
    else none
    else none
    else none
  else
    (f_X6_fail v0 2 σ).bind fun q_17 =>
    some q_17
set_option maxRecDepth 100000 in
set_option maxHeartbeats 4000000 in
theorem c_X6_readRound {G : kf_G} (hty : kf_wt G) (v0 : Nat) (k_v0 : kf_kd G v0 = 7) (σ : kf_St) {q : kf_St} (h : f_X6_readRound v0 σ = some q) : kf_Ct (4) yX6_readRound cX6_readRound 2 none G [.ref (kf_ad G v0)] σ none q := by
  refine kf_Ct.of hty.1 (lv := [(0, .ref (kf_ad G v0))]) (by decide +kernel) rfl (Nat.le_of_ble_eq_true rfl) (fun X E => ?_)
  unfold f_X6_readRound at h
  refine wa_aload_n 0 rfl E d_X6_readRound_0 ?_
  refine wa_getR fl_X6_15 k_v0 rfl E d_X6_readRound_1 ?_
  refine wa_getI fl_X6_131 (kf_wtf hty 3 10 k_v0 (by decide) rfl) rfl E d_X6_readRound_4 ?_
  obtain ⟨v1_1, ev1_1, h⟩ := kf_lte h
  refine wa_topi ev1_1 ?_
  refine wa_istore_n (lv' := [(1, .int v1_1), (0, .ref (kf_ad G v0))]) rfl (by decide) rfl E d_X6_readRound_7 ?_
  refine wa_iload_n 0 rfl E d_X6_readRound_8 ?_
  refine wa_bipush 10 bp_10 E d_X6_readRound_9 ?_
  refine wa_icmp_lt E d_X6_readRound_11 (fun c_2 => ?_) (fun c_2 => ?_)
  · replace h := kf_ift c_2 h
    refine wa_aload_n 1 rfl E d_X6_readRound_20 ?_
    refine wa_sipush 258 sp_258 E d_X6_readRound_21 ?_
    obtain ⟨q_3, hq_3, h⟩ := kf_bd h
    refine wa_callV (st2 := []) (c_X6_take hty v0 258 k_v0 σ hq_3) mv_X6_take ml_X6_101 k_v0 rfl (Nat.le_of_ble_eq_true rfl) rfl (Nat.le_of_ble_eq_true rfl) E d_X6_readRound_24 rfl ?_
    refine wa_aload_n 1 rfl E d_X6_readRound_27 ?_
    refine wa_getR fl_X6_15 k_v0 rfl E d_X6_readRound_28 ?_
    refine wa_getR fl_X6_134 (kf_wtf hty 3 10 k_v0 (by decide) rfl) rfl E d_X6_readRound_31 ?_
    refine wa_iload_n 0 rfl E d_X6_readRound_34 ?_
    refine wa_aload_n 1 rfl E d_X6_readRound_35 ?_
    refine wa_aload_n 1 rfl E d_X6_readRound_36 ?_
    refine wa_getR fl_X6_15 k_v0 rfl E d_X6_readRound_37 ?_
    refine wa_getR fl_X6_125 (kf_wtf hty 3 10 k_v0 (by decide) rfl) rfl E d_X6_readRound_40 ?_
    refine wa_aload_n 1 rfl E d_X6_readRound_43 ?_
    refine wa_getR fl_X6_15 k_v0 rfl E d_X6_readRound_44 ?_
    refine wa_getI fl_X6_122 (kf_wtf hty 3 10 k_v0 (by decide) rfl) rfl E d_X6_readRound_47 ?_
    obtain ⟨q_4, hq_4, h⟩ := kf_bd h
    refine wa_callV (st2 := [.int q_4.1, .int v1_1, .ref (kf_ad G (kf_rf (kf_rf v0 3) 10))]) (c_X6_readKnownName hty v0 (kf_rf (kf_rf v0 3) 7) (q_3.1 (kf_rf v0 3) 1) k_v0 (kf_wtf hty 7 50 (kf_wtf hty 3 10 k_v0 (by decide) rfl) (by decide) rfl) q_3 hq_4) mv_X6_readKnownName ml_X6_137 k_v0 rfl (Nat.le_of_ble_eq_true rfl) rfl (Nat.le_of_ble_eq_true rfl) E d_X6_readRound_50 rfl ?_
    obtain ⟨g_5, h⟩ := kf_gd h
    obtain ⟨σ_6, eσ_6, h⟩ := kf_lte h
    refine wa_iast (kf_wtf hty 10 49 (kf_wtf hty 3 10 k_v0 (by decide) rfl) (by decide) rfl) g_5 E d_X6_readRound_53 eσ_6 ?_
    refine wa_aload_n 1 rfl E d_X6_readRound_54 ?_
    refine wa_getR fl_X6_15 k_v0 rfl E d_X6_readRound_55 ?_
    refine wa_getR fl_X6_141 (kf_wtf hty 3 10 k_v0 (by decide) rfl) rfl E d_X6_readRound_58 ?_
    refine wa_iload_n 0 rfl E d_X6_readRound_61 ?_
    refine wa_aload_n 1 rfl E d_X6_readRound_62 ?_
    refine wa_aload_n 1 rfl E d_X6_readRound_63 ?_
    refine wa_getR fl_X6_15 k_v0 rfl E d_X6_readRound_64 ?_
    refine wa_getR fl_X6_107 (kf_wtf hty 3 10 k_v0 (by decide) rfl) rfl E d_X6_readRound_67 ?_
    refine wa_aload_n 1 rfl E d_X6_readRound_70 ?_
    refine wa_getR fl_X6_15 k_v0 rfl E d_X6_readRound_71 ?_
    refine wa_getI fl_X6_104 (kf_wtf hty 3 10 k_v0 (by decide) rfl) rfl E d_X6_readRound_74 ?_
    obtain ⟨q_7, hq_7, h⟩ := kf_bd h
    refine wa_callV (st2 := [.int q_7.1, .int v1_1, .ref (kf_ad G (kf_rf (kf_rf v0 3) 11))]) (c_X6_readKnownName hty v0 (kf_rf (kf_rf v0 3) 6) (σ_6.1 (kf_rf v0 3) 0) k_v0 (kf_wtf hty 6 50 (kf_wtf hty 3 10 k_v0 (by decide) rfl) (by decide) rfl) σ_6 hq_7) mv_X6_readKnownName ml_X6_137 k_v0 rfl (Nat.le_of_ble_eq_true rfl) rfl (Nat.le_of_ble_eq_true rfl) E d_X6_readRound_77 rfl ?_
    obtain ⟨g_8, h⟩ := kf_gd h
    obtain ⟨σ_9, eσ_9, h⟩ := kf_lte h
    refine wa_iast (kf_wtf hty 11 49 (kf_wtf hty 3 10 k_v0 (by decide) rfl) (by decide) rfl) g_8 E d_X6_readRound_80 eσ_9 ?_
    refine wa_aload_n 1 rfl E d_X6_readRound_81 ?_
    refine wa_getR fl_X6_15 k_v0 rfl E d_X6_readRound_82 ?_
    refine wa_getR fl_X6_144 (kf_wtf hty 3 10 k_v0 (by decide) rfl) rfl E d_X6_readRound_85 ?_
    refine wa_iload_n 0 rfl E d_X6_readRound_88 ?_
    refine wa_aload_n 1 rfl E d_X6_readRound_89 ?_
    refine wa_iconst 1 ic_1 E d_X6_readRound_90 ?_
    refine wa_bipush 30 bp_30 E d_X6_readRound_91 ?_
    obtain ⟨q_10, hq_10, h⟩ := kf_bd h
    refine wa_callV (st2 := [.int q_10.1, .int v1_1, .ref (kf_ad G (kf_rf (kf_rf v0 3) 12))]) (c_X6_readNumber hty v0 1 30 k_v0 σ_9 hq_10) mv_X6_readNumber ml_X6_147 k_v0 rfl (Nat.le_of_ble_eq_true rfl) rfl (Nat.le_of_ble_eq_true rfl) E d_X6_readRound_93 rfl ?_
    obtain ⟨g_11, h⟩ := kf_gd h
    obtain ⟨σ_12, eσ_12, h⟩ := kf_lte h
    refine wa_iast (kf_wtf hty 12 49 (kf_wtf hty 3 10 k_v0 (by decide) rfl) (by decide) rfl) g_11 E d_X6_readRound_96 eσ_12 ?_
    refine wa_aload_n 1 rfl E d_X6_readRound_97 ?_
    refine wa_getR fl_X6_15 k_v0 rfl E d_X6_readRound_98 ?_
    refine wa_getR fl_X6_151 (kf_wtf hty 3 10 k_v0 (by decide) rfl) rfl E d_X6_readRound_101 ?_
    refine wa_iload_n 0 rfl E d_X6_readRound_104 ?_
    refine wa_aload_n 1 rfl E d_X6_readRound_105 ?_
    refine wa_iconst 0 ic_0 E d_X6_readRound_106 ?_
    refine wa_bipush 29 bp_29 E d_X6_readRound_107 ?_
    obtain ⟨q_13, hq_13, h⟩ := kf_bd h
    refine wa_callV (st2 := [.int q_13.1, .int v1_1, .ref (kf_ad G (kf_rf (kf_rf v0 3) 13))]) (c_X6_readNumber hty v0 0 29 k_v0 σ_12 hq_13) mv_X6_readNumber ml_X6_147 k_v0 rfl (Nat.le_of_ble_eq_true rfl) rfl (Nat.le_of_ble_eq_true rfl) E d_X6_readRound_109 rfl ?_
    obtain ⟨g_14, h⟩ := kf_gd h
    obtain ⟨σ_15, eσ_15, h⟩ := kf_lte h
    refine wa_iast (kf_wtf hty 13 49 (kf_wtf hty 3 10 k_v0 (by decide) rfl) (by decide) rfl) g_14 E d_X6_readRound_112 eσ_15 ?_
    refine wa_aload_n 1 rfl E d_X6_readRound_113 ?_
    refine wa_getR fl_X6_15 k_v0 rfl E d_X6_readRound_114 ?_
    refine wa_iload_n 0 rfl E d_X6_readRound_117 ?_
    refine wa_iconst 1 ic_1 E d_X6_readRound_118 ?_
    refine wa_iadd E d_X6_readRound_119 ?_
    obtain ⟨σ_16, eσ_16, h⟩ := kf_lte h
    refine wa_putI fl_X6_131 fp_10_2 (kf_wtf hty 3 10 k_v0 (by decide) rfl) rfl (by decide) rfl rfl E d_X6_readRound_120 eσ_16 ?_
    cases h
    exact wa_vret E d_X6_readRound_123
  · replace h := kf_iff c_2 h
    refine wa_aload_n 1 rfl E d_X6_readRound_14 ?_
    refine wa_iconst 2 ic_2 E d_X6_readRound_15 ?_
    obtain ⟨q_17, hq_17, h⟩ := kf_bd h
    refine wa_callV (st2 := []) (c_X6_fail hty v0 2 k_v0 σ hq_17) mv_X6_fail ml_X6_97 k_v0 rfl (Nat.le_of_ble_eq_true rfl) rfl (Nat.le_of_ble_eq_true rfl) E d_X6_readRound_16 rfl ?_
    cases h
    exact wa_vret E d_X6_readRound_19
/-! X6_readUnit -/
theorem d_X6_readUnit_0 : kf_dq cX6_readUnit 0 1 1 (.aload_n 0) := ⟨by decide +kernel, rfl⟩
theorem d_X6_readUnit_1 : kf_dq cX6_readUnit 1 4 3 (.getfield 40) := ⟨by decide +kernel, rfl⟩
theorem d_X6_readUnit_4 : kf_dq cX6_readUnit 4 5 1 (.istore_n 3) := ⟨by decide +kernel, rfl⟩
theorem d_X6_readUnit_5 : kf_dq cX6_readUnit 5 6 1 (.aload_n 0) := ⟨by decide +kernel, rfl⟩
theorem d_X6_readUnit_6 : kf_dq cX6_readUnit 6 9 3 (.getfield 43) := ⟨by decide +kernel, rfl⟩
theorem d_X6_readUnit_9 : kf_dj cX6_readUnit 9 12 13 (.ifCond .eq) := ⟨4, by decide +kernel, rfl, by decide⟩
theorem d_X6_readUnit_12 : kf_dq cX6_readUnit 12 13 1 (.return_) := ⟨by decide +kernel, rfl⟩
theorem d_X6_readUnit_13 : kf_dq cX6_readUnit 13 14 1 (.iload_n 3) := ⟨by decide +kernel, rfl⟩
theorem d_X6_readUnit_14 : kf_dq cX6_readUnit 14 15 1 (.iconst 3) := ⟨by decide +kernel, rfl⟩
theorem d_X6_readUnit_15 : kf_dj cX6_readUnit 15 18 43 (.if_icmp .ne) := ⟨28, by decide +kernel, rfl, by decide⟩
theorem d_X6_readUnit_18 : kf_dq cX6_readUnit 18 19 1 (.aload_n 1) := ⟨by decide +kernel, rfl⟩
theorem d_X6_readUnit_19 : kf_dq cX6_readUnit 19 20 1 (.iconst 0) := ⟨by decide +kernel, rfl⟩
theorem d_X6_readUnit_20 : kf_dq cX6_readUnit 20 21 1 (.aload_n 0) := ⟨by decide +kernel, rfl⟩
theorem d_X6_readUnit_21 : kf_dq cX6_readUnit 21 24 3 (.getfield 9) := ⟨by decide +kernel, rfl⟩
theorem d_X6_readUnit_24 : kf_dq cX6_readUnit 24 25 1 (.aload_n 0) := ⟨by decide +kernel, rfl⟩
theorem d_X6_readUnit_25 : kf_dq cX6_readUnit 25 28 3 (.getfield 33) := ⟨by decide +kernel, rfl⟩
theorem d_X6_readUnit_28 : kf_dq cX6_readUnit 28 31 3 (.invokevirtual 154) := ⟨by decide +kernel, rfl⟩
theorem d_X6_readUnit_31 : kf_dq cX6_readUnit 31 32 1 (.l2i) := ⟨by decide +kernel, rfl⟩
theorem d_X6_readUnit_32 : kf_dq cX6_readUnit 32 35 3 (.invokevirtual 175) := ⟨by decide +kernel, rfl⟩
theorem d_X6_readUnit_35 : kf_dq cX6_readUnit 35 36 1 (.aload_n 0) := ⟨by decide +kernel, rfl⟩
theorem d_X6_readUnit_36 : kf_dq cX6_readUnit 36 37 1 (.iload_n 3) := ⟨by decide +kernel, rfl⟩
theorem d_X6_readUnit_37 : kf_dq cX6_readUnit 37 40 3 (.invokevirtual 101) := ⟨by decide +kernel, rfl⟩
theorem d_X6_readUnit_40 : kf_dj cX6_readUnit 40 43 123 .goto := ⟨83, by decide +kernel, rfl, by decide⟩
theorem d_X6_readUnit_43 : kf_dq cX6_readUnit 43 44 1 (.iload_n 3) := ⟨by decide +kernel, rfl⟩
theorem d_X6_readUnit_44 : kf_dq cX6_readUnit 44 47 3 (.sipush 268) := ⟨by decide +kernel, rfl⟩
theorem d_X6_readUnit_47 : kf_dj cX6_readUnit 47 50 75 (.if_icmp .lt) := ⟨28, by decide +kernel, rfl, by decide⟩
theorem d_X6_readUnit_50 : kf_dq cX6_readUnit 50 51 1 (.iload_n 3) := ⟨by decide +kernel, rfl⟩
theorem d_X6_readUnit_51 : kf_dq cX6_readUnit 51 54 3 (.sipush 276) := ⟨by decide +kernel, rfl⟩
theorem d_X6_readUnit_54 : kf_dj cX6_readUnit 54 57 75 (.if_icmp .gt) := ⟨21, by decide +kernel, rfl, by decide⟩
theorem d_X6_readUnit_57 : kf_dq cX6_readUnit 57 58 1 (.aload_n 1) := ⟨by decide +kernel, rfl⟩
theorem d_X6_readUnit_58 : kf_dq cX6_readUnit 58 59 1 (.iconst 1) := ⟨by decide +kernel, rfl⟩
theorem d_X6_readUnit_59 : kf_dq cX6_readUnit 59 60 1 (.iload_n 3) := ⟨by decide +kernel, rfl⟩
theorem d_X6_readUnit_60 : kf_dq cX6_readUnit 60 63 3 (.sipush 268) := ⟨by decide +kernel, rfl⟩
theorem d_X6_readUnit_63 : kf_dq cX6_readUnit 63 64 1 (.isub) := ⟨by decide +kernel, rfl⟩
theorem d_X6_readUnit_64 : kf_dq cX6_readUnit 64 67 3 (.invokevirtual 175) := ⟨by decide +kernel, rfl⟩
theorem d_X6_readUnit_67 : kf_dq cX6_readUnit 67 68 1 (.aload_n 0) := ⟨by decide +kernel, rfl⟩
theorem d_X6_readUnit_68 : kf_dq cX6_readUnit 68 69 1 (.iload_n 3) := ⟨by decide +kernel, rfl⟩
theorem d_X6_readUnit_69 : kf_dq cX6_readUnit 69 72 3 (.invokevirtual 101) := ⟨by decide +kernel, rfl⟩
theorem d_X6_readUnit_72 : kf_dj cX6_readUnit 72 75 123 .goto := ⟨51, by decide +kernel, rfl, by decide⟩
theorem d_X6_readUnit_75 : kf_dq cX6_readUnit 75 76 1 (.iload_n 3) := ⟨by decide +kernel, rfl⟩
theorem d_X6_readUnit_76 : kf_dq cX6_readUnit 76 78 2 (.bipush 40) := ⟨by decide +kernel, rfl⟩
theorem d_X6_readUnit_78 : kf_dj cX6_readUnit 78 81 89 (.if_icmp .eq) := ⟨11, by decide +kernel, rfl, by decide⟩
theorem d_X6_readUnit_81 : kf_dq cX6_readUnit 81 82 1 (.aload_n 0) := ⟨by decide +kernel, rfl⟩
theorem d_X6_readUnit_82 : kf_dq cX6_readUnit 82 83 1 (.iconst 1) := ⟨by decide +kernel, rfl⟩
theorem d_X6_readUnit_83 : kf_dq cX6_readUnit 83 86 3 (.invokevirtual 97) := ⟨by decide +kernel, rfl⟩
theorem d_X6_readUnit_86 : kf_dj cX6_readUnit 86 89 123 .goto := ⟨37, by decide +kernel, rfl, by decide⟩
theorem d_X6_readUnit_89 : kf_dq cX6_readUnit 89 90 1 (.iload_n 2) := ⟨by decide +kernel, rfl⟩
theorem d_X6_readUnit_90 : kf_dq cX6_readUnit 90 92 2 (.bipush 6) := ⟨by decide +kernel, rfl⟩
theorem d_X6_readUnit_92 : kf_dj cX6_readUnit 92 95 103 (.if_icmp .lt) := ⟨11, by decide +kernel, rfl, by decide⟩
theorem d_X6_readUnit_95 : kf_dq cX6_readUnit 95 96 1 (.aload_n 0) := ⟨by decide +kernel, rfl⟩
theorem d_X6_readUnit_96 : kf_dq cX6_readUnit 96 97 1 (.iconst 2) := ⟨by decide +kernel, rfl⟩
theorem d_X6_readUnit_97 : kf_dq cX6_readUnit 97 100 3 (.invokevirtual 97) := ⟨by decide +kernel, rfl⟩
theorem d_X6_readUnit_100 : kf_dj cX6_readUnit 100 103 123 .goto := ⟨23, by decide +kernel, rfl, by decide⟩
theorem d_X6_readUnit_103 : kf_dq cX6_readUnit 103 104 1 (.aload_n 0) := ⟨by decide +kernel, rfl⟩
theorem d_X6_readUnit_104 : kf_dq cX6_readUnit 104 106 2 (.bipush 40) := ⟨by decide +kernel, rfl⟩
theorem d_X6_readUnit_106 : kf_dq cX6_readUnit 106 109 3 (.invokevirtual 101) := ⟨by decide +kernel, rfl⟩
theorem d_X6_readUnit_109 : kf_dq cX6_readUnit 109 110 1 (.aload_n 0) := ⟨by decide +kernel, rfl⟩
theorem d_X6_readUnit_110 : kf_dq cX6_readUnit 110 111 1 (.aload_n 1) := ⟨by decide +kernel, rfl⟩
theorem d_X6_readUnit_111 : kf_dq cX6_readUnit 111 112 1 (.iload_n 2) := ⟨by decide +kernel, rfl⟩
theorem d_X6_readUnit_112 : kf_dq cX6_readUnit 112 113 1 (.iconst 1) := ⟨by decide +kernel, rfl⟩
theorem d_X6_readUnit_113 : kf_dq cX6_readUnit 113 114 1 (.iadd) := ⟨by decide +kernel, rfl⟩
theorem d_X6_readUnit_114 : kf_dq cX6_readUnit 114 117 3 (.invokevirtual 168) := ⟨by decide +kernel, rfl⟩
theorem d_X6_readUnit_117 : kf_dq cX6_readUnit 117 118 1 (.aload_n 0) := ⟨by decide +kernel, rfl⟩
theorem d_X6_readUnit_118 : kf_dq cX6_readUnit 118 120 2 (.bipush 41) := ⟨by decide +kernel, rfl⟩
theorem d_X6_readUnit_120 : kf_dq cX6_readUnit 120 123 3 (.invokevirtual 101) := ⟨by decide +kernel, rfl⟩
theorem d_X6_readUnit_123 : kf_dq cX6_readUnit 123 124 1 (.return_) := ⟨by decide +kernel, rfl⟩
def f_X6_readUnit_75 (rs : Nat → Nat → Int32 → kf_St → Option kf_St) (v0 : Nat) (v1 : Nat) (v2 : Int32) (v3 : Int32) (σ : kf_St) : Option kf_St :=
  if v3 = 40 then
    if v2 < 6 then
      (f_X6_take v0 40 σ).bind fun q_3 =>
      (rs v0 v1 (v2 + 1) q_3).bind fun q_4 =>
      (f_X6_take v0 41 q_4).bind fun q_5 =>
      some q_5
    else
      (f_X6_fail v0 2 σ).bind fun q_6 =>
      some q_6
  else
    (f_X6_fail v0 1 σ).bind fun q_7 =>
    some q_7
set_option maxRecDepth 100000 in
set_option maxHeartbeats 4000000 in
theorem b_X6_readUnit_75 {X : kf_X} {G : kf_G} {dd : Nat} (hdd : 10 ≤ dd) {rs : Nat → Nat → Int32 → kf_St → Option kf_St} {q : kf_St} (E : kf_ok X G cX6_readUnit RX6 4 none (dd + 1)) (hty : kf_wt G) (hrs : ∀ (v0 v1 : Nat) (v2 : Int32) (_ : kf_kd G v0 = 7) (_ : kf_kd G v1 = 3) (σ : kf_St) {q : kf_St}, rs v0 v1 v2 σ = some q → kf_Ct dd yX6_readSum cX6_readSum 5 none G [.ref (kf_ad G v0), .ref (kf_ad G v1), .int v2] σ none q) (v0 : Nat) (v1 : Nat) (v2 : Int32) (v3 : Int32) (k_v0 : kf_kd G v0 = 7) (k_v1 : kf_kd G v1 = 3) (σ : kf_St) (h : f_X6_readUnit_75 rs v0 v1 v2 v3 σ = some q) : kf_WA X G 4 (kf_Q X G none q) 75 [(0, .ref (kf_ad G v0)), (1, .ref (kf_ad G v1)), (2, .int v2), (3, .int v3)] [] σ := by
  unfold f_X6_readUnit_75 at h
  refine wa_iload_n 3 rfl E d_X6_readUnit_75 ?_
  refine wa_bipush 40 bp_40 E d_X6_readUnit_76 ?_
  refine wa_icmp_eq E d_X6_readUnit_78 (fun c_1 => ?_) (fun c_1 => ?_)
  · replace h := kf_ift c_1 h
    refine wa_iload_n 2 rfl E d_X6_readUnit_89 ?_
    refine wa_bipush 6 bp_6 E d_X6_readUnit_90 ?_
    refine wa_icmp_lt E d_X6_readUnit_92 (fun c_2 => ?_) (fun c_2 => ?_)
    · replace h := kf_ift c_2 h
      refine wa_aload_n 0 rfl E d_X6_readUnit_103 ?_
      refine wa_bipush 40 bp_40 E d_X6_readUnit_104 ?_
      obtain ⟨q_3, hq_3, h⟩ := kf_bd h
      refine wa_callV (st2 := []) (c_X6_take hty v0 40 k_v0 σ hq_3) mv_X6_take ml_X6_101 k_v0 rfl (by omega) rfl (Nat.le_of_ble_eq_true rfl) E d_X6_readUnit_106 rfl ?_
      refine wa_aload_n 0 rfl E d_X6_readUnit_109 ?_
      refine wa_aload_n 1 rfl E d_X6_readUnit_110 ?_
      refine wa_iload_n 2 rfl E d_X6_readUnit_111 ?_
      refine wa_iconst 1 ic_1 E d_X6_readUnit_112 ?_
      refine wa_iadd E d_X6_readUnit_113 ?_
      obtain ⟨q_4, hq_4, h⟩ := kf_bd h
      refine wa_callV (st2 := []) (hrs v0 v1 (v2 + 1) k_v0 k_v1 q_3 hq_4) mv_X6_readSum ml_X6_168 k_v0 rfl (by omega) rfl (Nat.le_of_ble_eq_true rfl) E d_X6_readUnit_114 rfl ?_
      refine wa_aload_n 0 rfl E d_X6_readUnit_117 ?_
      refine wa_bipush 41 bp_41 E d_X6_readUnit_118 ?_
      obtain ⟨q_5, hq_5, h⟩ := kf_bd h
      refine wa_callV (st2 := []) (c_X6_take hty v0 41 k_v0 q_4 hq_5) mv_X6_take ml_X6_101 k_v0 rfl (by omega) rfl (Nat.le_of_ble_eq_true rfl) E d_X6_readUnit_120 rfl ?_
      cases h
      exact wa_vret E d_X6_readUnit_123
    · replace h := kf_iff c_2 h
      refine wa_aload_n 0 rfl E d_X6_readUnit_95 ?_
      refine wa_iconst 2 ic_2 E d_X6_readUnit_96 ?_
      obtain ⟨q_6, hq_6, h⟩ := kf_bd h
      refine wa_callV (st2 := []) (c_X6_fail hty v0 2 k_v0 σ hq_6) mv_X6_fail ml_X6_97 k_v0 rfl (by omega) rfl (Nat.le_of_ble_eq_true rfl) E d_X6_readUnit_97 rfl ?_
      refine wa_goto E d_X6_readUnit_100 ?_
      cases h
      exact wa_vret E d_X6_readUnit_123
  · replace h := kf_iff c_1 h
    refine wa_aload_n 0 rfl E d_X6_readUnit_81 ?_
    refine wa_iconst 1 ic_1 E d_X6_readUnit_82 ?_
    obtain ⟨q_7, hq_7, h⟩ := kf_bd h
    refine wa_callV (st2 := []) (c_X6_fail hty v0 1 k_v0 σ hq_7) mv_X6_fail ml_X6_97 k_v0 rfl (by omega) rfl (Nat.le_of_ble_eq_true rfl) E d_X6_readUnit_83 rfl ?_
    refine wa_goto E d_X6_readUnit_86 ?_
    cases h
    exact wa_vret E d_X6_readUnit_123
def f_X6_readUnit (rs : Nat → Nat → Int32 → kf_St → Option kf_St) (v0 : Nat) (v1 : Nat) (v2 : Int32) (σ : kf_St) : Option kf_St :=
  kf_lt ((σ.1 v0 5)) fun v3_1 =>
  if (σ.1 v0 0) = 0 then
    if v3_1 = 3 then
      (f_X8_valueAt (kf_rf v0 2) (σ.1 v0 4) σ).bind fun q_8 =>
      (f_X2_put v1 0 (Int64.toInt32 q_8.1) q_8.2).bind fun q_9 =>
      (f_X6_take v0 v3_1 q_9).bind fun q_10 =>
      some q_10
    else
      if v3_1 < 268 then
        f_X6_readUnit_75 rs v0 v1 v2 v3_1 σ
      else
        if 276 < v3_1 then
          f_X6_readUnit_75 rs v0 v1 v2 v3_1 σ
        else
          (f_X2_put v1 1 (v3_1 - 268) σ).bind fun q_6 =>
          (f_X6_take v0 v3_1 q_6).bind fun q_7 =>
          some q_7
  else
    some σ
set_option maxRecDepth 100000 in
set_option maxHeartbeats 4000000 in
theorem c_X6_readUnit {G : kf_G} {dd : Nat} (hdd : 10 ≤ dd) {rs : Nat → Nat → Int32 → kf_St → Option kf_St} (hty : kf_wt G) (hrs : ∀ (v0 v1 : Nat) (v2 : Int32) (_ : kf_kd G v0 = 7) (_ : kf_kd G v1 = 3) (σ : kf_St) {q : kf_St}, rs v0 v1 v2 σ = some q → kf_Ct dd yX6_readSum cX6_readSum 5 none G [.ref (kf_ad G v0), .ref (kf_ad G v1), .int v2] σ none q) (v0 : Nat) (v1 : Nat) (v2 : Int32) (k_v0 : kf_kd G v0 = 7) (k_v1 : kf_kd G v1 = 3) (σ : kf_St) {q : kf_St} (h : f_X6_readUnit rs v0 v1 v2 σ = some q) : kf_Ct (dd + 1) yX6_readUnit cX6_readUnit 4 none G [.ref (kf_ad G v0), .ref (kf_ad G v1), .int v2] σ none q := by
  refine kf_Ct.of hty.1 (lv := [(0, .ref (kf_ad G v0)), (1, .ref (kf_ad G v1)), (2, .int v2)]) (by decide +kernel) rfl (Nat.le_of_ble_eq_true rfl) (fun X E => ?_)
  unfold f_X6_readUnit at h
  refine wa_aload_n 0 rfl E d_X6_readUnit_0 ?_
  refine wa_getI fl_X6_40 k_v0 rfl E d_X6_readUnit_1 ?_
  obtain ⟨v3_1, ev3_1, h⟩ := kf_lte h
  refine wa_topi ev3_1 ?_
  refine wa_istore_n (lv' := [(3, .int v3_1), (0, .ref (kf_ad G v0)), (1, .ref (kf_ad G v1)), (2, .int v2)]) rfl (by decide) rfl E d_X6_readUnit_4 ?_
  refine wa_aload_n 1 rfl E d_X6_readUnit_5 ?_
  refine wa_getI fl_X6_43 k_v0 rfl E d_X6_readUnit_6 ?_
  refine wa_if_eq E d_X6_readUnit_9 (fun c_2 => ?_) (fun c_2 => ?_)
  · replace h := kf_ift c_2 h
    refine wa_iload_n 0 rfl E d_X6_readUnit_13 ?_
    refine wa_iconst 3 ic_3 E d_X6_readUnit_14 ?_
    refine wa_icmp_ne E d_X6_readUnit_15 (fun c_3 => ?_) (fun c_3 => ?_)
    · replace h := kf_iff c_3 h
      refine wa_iload_n 0 rfl E d_X6_readUnit_43 ?_
      refine wa_sipush 268 sp_268 E d_X6_readUnit_44 ?_
      refine wa_icmp_lt E d_X6_readUnit_47 (fun c_4 => ?_) (fun c_4 => ?_)
      · replace h := kf_ift c_4 h
        refine wa_sub [1, 2, 3, 0] rfl ?_
        exact b_X6_readUnit_75 hdd E hty hrs v0 v1 v2 v3_1 k_v0 k_v1 σ h
      · replace h := kf_iff c_4 h
        refine wa_iload_n 0 rfl E d_X6_readUnit_50 ?_
        refine wa_sipush 276 sp_276 E d_X6_readUnit_51 ?_
        refine wa_icmp_gt E d_X6_readUnit_54 (fun c_5 => ?_) (fun c_5 => ?_)
        · replace h := kf_ift c_5 h
          refine wa_sub [1, 2, 3, 0] rfl ?_
          exact b_X6_readUnit_75 hdd E hty hrs v0 v1 v2 v3_1 k_v0 k_v1 σ h
        · replace h := kf_iff c_5 h
          refine wa_aload_n 2 rfl E d_X6_readUnit_57 ?_
          refine wa_iconst 1 ic_1 E d_X6_readUnit_58 ?_
          refine wa_iload_n 0 rfl E d_X6_readUnit_59 ?_
          refine wa_sipush 268 sp_268 E d_X6_readUnit_60 ?_
          refine wa_isub E d_X6_readUnit_63 ?_
          obtain ⟨q_6, hq_6, h⟩ := kf_bd h
          refine wa_callV (st2 := []) (c_X2_put hty v1 1 (v3_1 - 268) k_v1 σ hq_6) mv_X2_put ml_X6_175 k_v1 rfl (by omega) rfl (Nat.le_of_ble_eq_true rfl) E d_X6_readUnit_64 rfl ?_
          refine wa_aload_n 1 rfl E d_X6_readUnit_67 ?_
          refine wa_iload_n 0 rfl E d_X6_readUnit_68 ?_
          obtain ⟨q_7, hq_7, h⟩ := kf_bd h
          refine wa_callV (st2 := []) (c_X6_take hty v0 v3_1 k_v0 q_6 hq_7) mv_X6_take ml_X6_101 k_v0 rfl (by omega) rfl (Nat.le_of_ble_eq_true rfl) E d_X6_readUnit_69 rfl ?_
          refine wa_goto E d_X6_readUnit_72 ?_
          cases h
          exact wa_vret E d_X6_readUnit_123
    · replace h := kf_ift c_3 h
      refine wa_aload_n 2 rfl E d_X6_readUnit_18 ?_
      refine wa_iconst 0 ic_0 E d_X6_readUnit_19 ?_
      refine wa_aload_n 1 rfl E d_X6_readUnit_20 ?_
      refine wa_getR fl_X6_9 k_v0 rfl E d_X6_readUnit_21 ?_
      refine wa_aload_n 1 rfl E d_X6_readUnit_24 ?_
      refine wa_getI fl_X6_33 k_v0 rfl E d_X6_readUnit_25 ?_
      obtain ⟨q_8, hq_8, h⟩ := kf_bd h
      refine wa_callV (st2 := [.long q_8.1, .int 0, .ref (kf_ad G v1)]) (c_X8_valueAt hty (kf_rf v0 2) (σ.1 v0 4) (kf_wtf hty 2 8 k_v0 (by decide) rfl) σ hq_8) mv_X8_valueAt ml_X6_154 (kf_wtf hty 2 8 k_v0 (by decide) rfl) rfl (by omega) rfl (Nat.le_of_ble_eq_true rfl) E d_X6_readUnit_28 rfl ?_
      refine wa_l2i E d_X6_readUnit_31 ?_
      obtain ⟨q_9, hq_9, h⟩ := kf_bd h
      refine wa_callV (st2 := []) (c_X2_put hty v1 0 (Int64.toInt32 q_8.1) k_v1 q_8.2 hq_9) mv_X2_put ml_X6_175 k_v1 rfl (by omega) rfl (Nat.le_of_ble_eq_true rfl) E d_X6_readUnit_32 rfl ?_
      refine wa_aload_n 1 rfl E d_X6_readUnit_35 ?_
      refine wa_iload_n 0 rfl E d_X6_readUnit_36 ?_
      obtain ⟨q_10, hq_10, h⟩ := kf_bd h
      refine wa_callV (st2 := []) (c_X6_take hty v0 v3_1 k_v0 q_9 hq_10) mv_X6_take ml_X6_101 k_v0 rfl (by omega) rfl (Nat.le_of_ble_eq_true rfl) E d_X6_readUnit_37 rfl ?_
      refine wa_goto E d_X6_readUnit_40 ?_
      cases h
      exact wa_vret E d_X6_readUnit_123
  · replace h := kf_iff c_2 h
    cases h
    exact wa_vret E d_X6_readUnit_12
/-! X6_readProduct -/
theorem d_X6_readProduct_0 : kf_dq cX6_readProduct 0 1 1 (.aload_n 0) := ⟨by decide +kernel, rfl⟩
theorem d_X6_readProduct_1 : kf_dq cX6_readProduct 1 2 1 (.aload_n 1) := ⟨by decide +kernel, rfl⟩
theorem d_X6_readProduct_2 : kf_dq cX6_readProduct 2 3 1 (.iload_n 2) := ⟨by decide +kernel, rfl⟩
theorem d_X6_readProduct_3 : kf_dq cX6_readProduct 3 6 3 (.invokevirtual 185) := ⟨by decide +kernel, rfl⟩
theorem d_X6_readProduct_6 : kf_dq cX6_readProduct 6 7 1 (.iconst 0) := ⟨by decide +kernel, rfl⟩
theorem d_X6_readProduct_7 : kf_dq cX6_readProduct 7 8 1 (.istore_n 3) := ⟨by decide +kernel, rfl⟩
theorem d_X6_readProduct_8 : kf_dq cX6_readProduct 8 9 1 (.iload_n 3) := ⟨by decide +kernel, rfl⟩
theorem d_X6_readProduct_9 : kf_dq cX6_readProduct 9 12 3 (.sipush 400) := ⟨by decide +kernel, rfl⟩
theorem d_X6_readProduct_12 : kf_dj cX6_readProduct 12 15 81 (.if_icmp .ge) := ⟨69, by decide +kernel, rfl, by decide⟩
theorem d_X6_readProduct_15 : kf_dq cX6_readProduct 15 16 1 (.aload_n 0) := ⟨by decide +kernel, rfl⟩
theorem d_X6_readProduct_16 : kf_dq cX6_readProduct 16 19 3 (.getfield 43) := ⟨by decide +kernel, rfl⟩
theorem d_X6_readProduct_19 : kf_dj cX6_readProduct 19 22 81 (.ifCond .ne) := ⟨62, by decide +kernel, rfl, by decide⟩
theorem d_X6_readProduct_22 : kf_dq cX6_readProduct 22 23 1 (.aload_n 0) := ⟨by decide +kernel, rfl⟩
theorem d_X6_readProduct_23 : kf_dq cX6_readProduct 23 26 3 (.getfield 40) := ⟨by decide +kernel, rfl⟩
theorem d_X6_readProduct_26 : kf_dq cX6_readProduct 26 28 2 (.bipush 42) := ⟨by decide +kernel, rfl⟩
theorem d_X6_readProduct_28 : kf_dj cX6_readProduct 28 31 40 (.if_icmp .eq) := ⟨12, by decide +kernel, rfl, by decide⟩
theorem d_X6_readProduct_31 : kf_dq cX6_readProduct 31 32 1 (.aload_n 0) := ⟨by decide +kernel, rfl⟩
theorem d_X6_readProduct_32 : kf_dq cX6_readProduct 32 35 3 (.getfield 40) := ⟨by decide +kernel, rfl⟩
theorem d_X6_readProduct_35 : kf_dq cX6_readProduct 35 37 2 (.bipush 47) := ⟨by decide +kernel, rfl⟩
theorem d_X6_readProduct_37 : kf_dj cX6_readProduct 37 40 81 (.if_icmp .ne) := ⟨44, by decide +kernel, rfl, by decide⟩
theorem d_X6_readProduct_40 : kf_dq cX6_readProduct 40 41 1 (.aload_n 0) := ⟨by decide +kernel, rfl⟩
theorem d_X6_readProduct_41 : kf_dq cX6_readProduct 41 44 3 (.getfield 40) := ⟨by decide +kernel, rfl⟩
theorem d_X6_readProduct_44 : kf_dq cX6_readProduct 44 46 2 (.istore 4) := ⟨by decide +kernel, rfl⟩
theorem d_X6_readProduct_46 : kf_dq cX6_readProduct 46 47 1 (.aload_n 0) := ⟨by decide +kernel, rfl⟩
theorem d_X6_readProduct_47 : kf_dq cX6_readProduct 47 49 2 (.iload 4) := ⟨by decide +kernel, rfl⟩
theorem d_X6_readProduct_49 : kf_dq cX6_readProduct 49 52 3 (.invokevirtual 101) := ⟨by decide +kernel, rfl⟩
theorem d_X6_readProduct_52 : kf_dq cX6_readProduct 52 53 1 (.aload_n 0) := ⟨by decide +kernel, rfl⟩
theorem d_X6_readProduct_53 : kf_dq cX6_readProduct 53 54 1 (.aload_n 1) := ⟨by decide +kernel, rfl⟩
theorem d_X6_readProduct_54 : kf_dq cX6_readProduct 54 55 1 (.iload_n 2) := ⟨by decide +kernel, rfl⟩
theorem d_X6_readProduct_55 : kf_dq cX6_readProduct 55 58 3 (.invokevirtual 185) := ⟨by decide +kernel, rfl⟩
theorem d_X6_readProduct_58 : kf_dq cX6_readProduct 58 59 1 (.aload_n 1) := ⟨by decide +kernel, rfl⟩
theorem d_X6_readProduct_59 : kf_dq cX6_readProduct 59 61 2 (.iload 4) := ⟨by decide +kernel, rfl⟩
theorem d_X6_readProduct_61 : kf_dq cX6_readProduct 61 63 2 (.bipush 42) := ⟨by decide +kernel, rfl⟩
theorem d_X6_readProduct_63 : kf_dj cX6_readProduct 63 66 70 (.if_icmp .ne) := ⟨7, by decide +kernel, rfl, by decide⟩
theorem d_X6_readProduct_66 : kf_dq cX6_readProduct 66 67 1 (.iconst 4) := ⟨by decide +kernel, rfl⟩
theorem d_X6_readProduct_67 : kf_dj cX6_readProduct 67 70 71 .goto := ⟨4, by decide +kernel, rfl, by decide⟩
theorem d_X6_readProduct_70 : kf_dq cX6_readProduct 70 71 1 (.iconst 5) := ⟨by decide +kernel, rfl⟩
theorem d_X6_readProduct_71 : kf_dq cX6_readProduct 71 72 1 (.iconst 0) := ⟨by decide +kernel, rfl⟩
theorem d_X6_readProduct_72 : kf_dq cX6_readProduct 72 75 3 (.invokevirtual 175) := ⟨by decide +kernel, rfl⟩
theorem d_X6_readProduct_75 : kf_dq cX6_readProduct 75 78 3 (.iinc 3 1) := ⟨by decide +kernel, rfl⟩
theorem d_X6_readProduct_78 : kf_dj cX6_readProduct 78 81 8 .goto := ⟨(-70), by decide +kernel, rfl, by decide⟩
theorem d_X6_readProduct_81 : kf_dq cX6_readProduct 81 82 1 (.return_) := ⟨by decide +kernel, rfl⟩
def f_X6_readProduct_71 (rs : Nat → Nat → Int32 → kf_St → Option kf_St) (rec8 : Nat → Nat → Int32 → Int32 → kf_St → Option kf_St) (v0 : Nat) (v1 : Nat) (v2 : Int32) (v3 : Int32) (s0 : Nat) (s1 : Int32) (σ : kf_St) : Option kf_St :=
  (f_X2_put s0 s1 0 σ).bind fun q_1 =>
  kf_lt (v3 + 1) fun v3_2 =>
  rec8 v0 v1 v2 v3_2 q_1
set_option maxRecDepth 100000 in
set_option maxHeartbeats 4000000 in
theorem b_X6_readProduct_71 {X : kf_X} {G : kf_G} {dd : Nat} (hdd : 10 ≤ dd) {rs : Nat → Nat → Int32 → kf_St → Option kf_St} {rec8 : Nat → Nat → Int32 → Int32 → kf_St → Option kf_St} {q : kf_St} (E : kf_ok X G cX6_readProduct RX6 5 none (dd + 2)) (hty : kf_wt G) (hrs : ∀ (v0 v1 : Nat) (v2 : Int32) (_ : kf_kd G v0 = 7) (_ : kf_kd G v1 = 3) (σ : kf_St) {q : kf_St}, rs v0 v1 v2 σ = some q → kf_Ct dd yX6_readSum cX6_readSum 5 none G [.ref (kf_ad G v0), .ref (kf_ad G v1), .int v2] σ none q) (hrec8 : ∀ (v0 : Nat) (v1 : Nat) (v2 : Int32) (v3 : Int32) (k_v0 : kf_kd G v0 = 7) (k_v1 : kf_kd G v1 = 3) (σ : kf_St), rec8 v0 v1 v2 v3 σ = some q → kf_WA X G 5 (kf_Q X G none q) 8 [(0, .ref (kf_ad G v0)), (1, .ref (kf_ad G v1)), (2, .int v2), (3, .int v3)] [] σ) (v0 : Nat) (v1 : Nat) (v2 : Int32) (v3 : Int32) (s0 : Nat) (s1 : Int32) (k_v0 : kf_kd G v0 = 7) (k_v1 : kf_kd G v1 = 3) (k_s0 : kf_kd G s0 = 3) (σ : kf_St) (h : f_X6_readProduct_71 rs rec8 v0 v1 v2 v3 s0 s1 σ = some q) : kf_WA X G 5 (kf_Q X G none q) 71 [(0, .ref (kf_ad G v0)), (1, .ref (kf_ad G v1)), (2, .int v2), (3, .int v3)] [.int s1, .ref (kf_ad G s0)] σ := by
  unfold f_X6_readProduct_71 at h
  refine wa_iconst 0 ic_0 E d_X6_readProduct_71 ?_
  obtain ⟨q_1, hq_1, h⟩ := kf_bd h
  refine wa_callV (st2 := []) (c_X2_put hty s0 s1 0 k_s0 σ hq_1) mv_X2_put ml_X6_175 k_s0 rfl (by omega) rfl (Nat.le_of_ble_eq_true rfl) E d_X6_readProduct_72 rfl ?_
  obtain ⟨v3_2, ev3_2, h⟩ := kf_lte h
  refine wa_iinc (lv' := [(3, .int v3_2), (0, .ref (kf_ad G v0)), (1, .ref (kf_ad G v1)), (2, .int v2)]) v3_2 3 rfl (kf_inc ic_1 ev3_2) (by decide) rfl E d_X6_readProduct_75 ?_
  refine wa_goto E d_X6_readProduct_78 ?_
  refine wa_sub [1, 2, 3, 0] rfl ?_
  exact hrec8 v0 v1 v2 v3_2 k_v0 k_v1 q_1 h
def f_X6_readProduct_40 (rs : Nat → Nat → Int32 → kf_St → Option kf_St) (rec8 : Nat → Nat → Int32 → Int32 → kf_St → Option kf_St) (v0 : Nat) (v1 : Nat) (v2 : Int32) (v3 : Int32) (σ : kf_St) : Option kf_St :=
  kf_lt ((σ.1 v0 5)) fun v4_1 =>
  (f_X6_take v0 v4_1 σ).bind fun q_2 =>
  (f_X6_readUnit rs v0 v1 v2 q_2).bind fun q_3 =>
  if v4_1 = 42 then
    f_X6_readProduct_71 rs rec8 v0 v1 v2 v3 v1 4 q_3
  else
    f_X6_readProduct_71 rs rec8 v0 v1 v2 v3 v1 5 q_3
set_option maxRecDepth 100000 in
set_option maxHeartbeats 4000000 in
theorem b_X6_readProduct_40 {X : kf_X} {G : kf_G} {dd : Nat} (hdd : 10 ≤ dd) {rs : Nat → Nat → Int32 → kf_St → Option kf_St} {rec8 : Nat → Nat → Int32 → Int32 → kf_St → Option kf_St} {q : kf_St} (E : kf_ok X G cX6_readProduct RX6 5 none (dd + 2)) (hty : kf_wt G) (hrs : ∀ (v0 v1 : Nat) (v2 : Int32) (_ : kf_kd G v0 = 7) (_ : kf_kd G v1 = 3) (σ : kf_St) {q : kf_St}, rs v0 v1 v2 σ = some q → kf_Ct dd yX6_readSum cX6_readSum 5 none G [.ref (kf_ad G v0), .ref (kf_ad G v1), .int v2] σ none q) (hrec8 : ∀ (v0 : Nat) (v1 : Nat) (v2 : Int32) (v3 : Int32) (k_v0 : kf_kd G v0 = 7) (k_v1 : kf_kd G v1 = 3) (σ : kf_St), rec8 v0 v1 v2 v3 σ = some q → kf_WA X G 5 (kf_Q X G none q) 8 [(0, .ref (kf_ad G v0)), (1, .ref (kf_ad G v1)), (2, .int v2), (3, .int v3)] [] σ) (v0 : Nat) (v1 : Nat) (v2 : Int32) (v3 : Int32) (k_v0 : kf_kd G v0 = 7) (k_v1 : kf_kd G v1 = 3) (σ : kf_St) (h : f_X6_readProduct_40 rs rec8 v0 v1 v2 v3 σ = some q) : kf_WA X G 5 (kf_Q X G none q) 40 [(0, .ref (kf_ad G v0)), (1, .ref (kf_ad G v1)), (2, .int v2), (3, .int v3)] [] σ := by
  unfold f_X6_readProduct_40 at h
  refine wa_aload_n 0 rfl E d_X6_readProduct_40 ?_
  refine wa_getI fl_X6_40 k_v0 rfl E d_X6_readProduct_41 ?_
  obtain ⟨v4_1, ev4_1, h⟩ := kf_lte h
  refine wa_topi ev4_1 ?_
  refine wa_istore (lv' := [(4, .int v4_1), (0, .ref (kf_ad G v0)), (1, .ref (kf_ad G v1)), (2, .int v2), (3, .int v3)]) (by decide) rfl E d_X6_readProduct_44 ?_
  refine wa_aload_n 1 rfl E d_X6_readProduct_46 ?_
  refine wa_iload 0 rfl E d_X6_readProduct_47 ?_
  obtain ⟨q_2, hq_2, h⟩ := kf_bd h
  refine wa_callV (st2 := []) (c_X6_take hty v0 v4_1 k_v0 σ hq_2) mv_X6_take ml_X6_101 k_v0 rfl (by omega) rfl (Nat.le_of_ble_eq_true rfl) E d_X6_readProduct_49 rfl ?_
  refine wa_aload_n 1 rfl E d_X6_readProduct_52 ?_
  refine wa_aload_n 2 rfl E d_X6_readProduct_53 ?_
  refine wa_iload_n 3 rfl E d_X6_readProduct_54 ?_
  obtain ⟨q_3, hq_3, h⟩ := kf_bd h
  refine wa_callV (st2 := []) (c_X6_readUnit hdd hty hrs v0 v1 v2 k_v0 k_v1 q_2 hq_3) mv_X6_readUnit ml_X6_185 k_v0 rfl (by omega) rfl (Nat.le_of_ble_eq_true rfl) E d_X6_readProduct_55 rfl ?_
  refine wa_aload_n 2 rfl E d_X6_readProduct_58 ?_
  refine wa_iload 0 rfl E d_X6_readProduct_59 ?_
  refine wa_bipush 42 bp_42 E d_X6_readProduct_61 ?_
  refine wa_icmp_ne E d_X6_readProduct_63 (fun c_4 => ?_) (fun c_4 => ?_)
  · replace h := kf_iff c_4 h
    refine wa_iconst 5 ic_5 E d_X6_readProduct_70 ?_
    refine wa_sub [1, 2, 3, 4] rfl ?_
    exact b_X6_readProduct_71 hdd E hty hrs hrec8 v0 v1 v2 v3 v1 5 k_v0 k_v1 k_v1 q_3 h
  · replace h := kf_ift c_4 h
    refine wa_iconst 4 ic_4 E d_X6_readProduct_66 ?_
    refine wa_goto E d_X6_readProduct_67 ?_
    refine wa_sub [1, 2, 3, 4] rfl ?_
    exact b_X6_readProduct_71 hdd E hty hrs hrec8 v0 v1 v2 v3 v1 4 k_v0 k_v1 k_v1 q_3 h
def f_X6_readProduct_8_s (rs : Nat → Nat → Int32 → kf_St → Option kf_St) (rec8 : Nat → Nat → Int32 → Int32 → kf_St → Option kf_St) (v0 : Nat) (v1 : Nat) (v2 : Int32) (v3 : Int32) (σ : kf_St) : Option kf_St :=
  if 400 ≤ v3 then
    some σ
  else
    if (σ.1 v0 0) = 0 then
      if (σ.1 v0 5) = 42 then
        f_X6_readProduct_40 rs rec8 v0 v1 v2 v3 σ
      else
        if (σ.1 v0 5) = 47 then
          f_X6_readProduct_40 rs rec8 v0 v1 v2 v3 σ
        else
          some σ
    else
      some σ
def f_X6_readProduct_8 (rs : Nat → Nat → Int32 → kf_St → Option kf_St) : Nat → Nat → Nat → Int32 → Int32 → kf_St → Option kf_St
  | 0, _, _, _, _, _ => none
  | n + 1, v0, v1, v2, v3, σ => f_X6_readProduct_8_s rs (f_X6_readProduct_8 rs n) v0 v1 v2 v3 σ
set_option maxRecDepth 100000 in
set_option maxHeartbeats 4000000 in
theorem b_X6_readProduct_8_s {X : kf_X} {G : kf_G} {dd : Nat} (hdd : 10 ≤ dd) {rs : Nat → Nat → Int32 → kf_St → Option kf_St} (rec8 : Nat → Nat → Int32 → Int32 → kf_St → Option kf_St) {q : kf_St} (E : kf_ok X G cX6_readProduct RX6 5 none (dd + 2)) (hty : kf_wt G) (hrs : ∀ (v0 v1 : Nat) (v2 : Int32) (_ : kf_kd G v0 = 7) (_ : kf_kd G v1 = 3) (σ : kf_St) {q : kf_St}, rs v0 v1 v2 σ = some q → kf_Ct dd yX6_readSum cX6_readSum 5 none G [.ref (kf_ad G v0), .ref (kf_ad G v1), .int v2] σ none q) (hrec8 : ∀ (v0 : Nat) (v1 : Nat) (v2 : Int32) (v3 : Int32) (k_v0 : kf_kd G v0 = 7) (k_v1 : kf_kd G v1 = 3) (σ : kf_St), rec8 v0 v1 v2 v3 σ = some q → kf_WA X G 5 (kf_Q X G none q) 8 [(0, .ref (kf_ad G v0)), (1, .ref (kf_ad G v1)), (2, .int v2), (3, .int v3)] [] σ) (v0 : Nat) (v1 : Nat) (v2 : Int32) (v3 : Int32) (k_v0 : kf_kd G v0 = 7) (k_v1 : kf_kd G v1 = 3) (σ : kf_St) (h : f_X6_readProduct_8_s rs rec8 v0 v1 v2 v3 σ = some q) : kf_WA X G 5 (kf_Q X G none q) 8 [(0, .ref (kf_ad G v0)), (1, .ref (kf_ad G v1)), (2, .int v2), (3, .int v3)] [] σ := by
  unfold f_X6_readProduct_8_s at h
  refine wa_iload_n 3 rfl E d_X6_readProduct_8 ?_
  refine wa_sipush 400 sp_400 E d_X6_readProduct_9 ?_
  refine wa_icmp_ge E d_X6_readProduct_12 (fun c_1 => ?_) (fun c_1 => ?_)
  · replace h := kf_ift c_1 h
    cases h
    exact wa_vret E d_X6_readProduct_81
  · replace h := kf_iff c_1 h
    refine wa_aload_n 0 rfl E d_X6_readProduct_15 ?_
    refine wa_getI fl_X6_43 k_v0 rfl E d_X6_readProduct_16 ?_
    refine wa_if_ne E d_X6_readProduct_19 (fun c_2 => ?_) (fun c_2 => ?_)
    · replace h := kf_iff c_2 h
      cases h
      exact wa_vret E d_X6_readProduct_81
    · replace h := kf_ift c_2 h
      refine wa_aload_n 0 rfl E d_X6_readProduct_22 ?_
      refine wa_getI fl_X6_40 k_v0 rfl E d_X6_readProduct_23 ?_
      refine wa_bipush 42 bp_42 E d_X6_readProduct_26 ?_
      refine wa_icmp_eq E d_X6_readProduct_28 (fun c_3 => ?_) (fun c_3 => ?_)
      · replace h := kf_ift c_3 h
        exact b_X6_readProduct_40 hdd E hty hrs hrec8 v0 v1 v2 v3 k_v0 k_v1 σ h
      · replace h := kf_iff c_3 h
        refine wa_aload_n 0 rfl E d_X6_readProduct_31 ?_
        refine wa_getI fl_X6_40 k_v0 rfl E d_X6_readProduct_32 ?_
        refine wa_bipush 47 bp_47 E d_X6_readProduct_35 ?_
        refine wa_icmp_ne E d_X6_readProduct_37 (fun c_4 => ?_) (fun c_4 => ?_)
        · replace h := kf_iff c_4 h
          cases h
          exact wa_vret E d_X6_readProduct_81
        · replace h := kf_ift c_4 h
          exact b_X6_readProduct_40 hdd E hty hrs hrec8 v0 v1 v2 v3 k_v0 k_v1 σ h
theorem b_X6_readProduct_8 {X : kf_X} {G : kf_G} {dd : Nat} (hdd : 10 ≤ dd) {rs : Nat → Nat → Int32 → kf_St → Option kf_St} {q : kf_St} (E : kf_ok X G cX6_readProduct RX6 5 none (dd + 2)) (hty : kf_wt G) (hrs : ∀ (v0 v1 : Nat) (v2 : Int32) (_ : kf_kd G v0 = 7) (_ : kf_kd G v1 = 3) (σ : kf_St) {q : kf_St}, rs v0 v1 v2 σ = some q → kf_Ct dd yX6_readSum cX6_readSum 5 none G [.ref (kf_ad G v0), .ref (kf_ad G v1), .int v2] σ none q) : ∀ (N : Nat) (v0 : Nat) (v1 : Nat) (v2 : Int32) (v3 : Int32) (k_v0 : kf_kd G v0 = 7) (k_v1 : kf_kd G v1 = 3) (σ : kf_St) (_ : f_X6_readProduct_8 rs N v0 v1 v2 v3 σ = some q), kf_WA X G 5 (kf_Q X G none q) 8 [(0, .ref (kf_ad G v0)), (1, .ref (kf_ad G v1)), (2, .int v2), (3, .int v3)] [] σ
  | 0, _, _, _, _, _, _, _, h => by cases h
  | N + 1, v0, v1, v2, v3, k_v0, k_v1, σ, h => b_X6_readProduct_8_s hdd _ E hty hrs (b_X6_readProduct_8 hdd E hty hrs N) v0 v1 v2 v3 k_v0 k_v1 σ h
def f_X6_readProduct (rs : Nat → Nat → Int32 → kf_St → Option kf_St) (v0 : Nat) (v1 : Nat) (v2 : Int32) (σ : kf_St) : Option kf_St :=
  (f_X6_readUnit rs v0 v1 v2 σ).bind fun q_1 =>
  f_X6_readProduct_8 rs kf_F v0 v1 v2 0 q_1
set_option maxRecDepth 100000 in
set_option maxHeartbeats 4000000 in
theorem c_X6_readProduct {G : kf_G} {dd : Nat} (hdd : 10 ≤ dd) {rs : Nat → Nat → Int32 → kf_St → Option kf_St} (hty : kf_wt G) (hrs : ∀ (v0 v1 : Nat) (v2 : Int32) (_ : kf_kd G v0 = 7) (_ : kf_kd G v1 = 3) (σ : kf_St) {q : kf_St}, rs v0 v1 v2 σ = some q → kf_Ct dd yX6_readSum cX6_readSum 5 none G [.ref (kf_ad G v0), .ref (kf_ad G v1), .int v2] σ none q) (v0 : Nat) (v1 : Nat) (v2 : Int32) (k_v0 : kf_kd G v0 = 7) (k_v1 : kf_kd G v1 = 3) (σ : kf_St) {q : kf_St} (h : f_X6_readProduct rs v0 v1 v2 σ = some q) : kf_Ct (dd + 2) yX6_readProduct cX6_readProduct 5 none G [.ref (kf_ad G v0), .ref (kf_ad G v1), .int v2] σ none q := by
  refine kf_Ct.of hty.1 (lv := [(0, .ref (kf_ad G v0)), (1, .ref (kf_ad G v1)), (2, .int v2)]) (by decide +kernel) rfl (Nat.le_of_ble_eq_true rfl) (fun X E => ?_)
  unfold f_X6_readProduct at h
  refine wa_aload_n 0 rfl E d_X6_readProduct_0 ?_
  refine wa_aload_n 1 rfl E d_X6_readProduct_1 ?_
  refine wa_iload_n 2 rfl E d_X6_readProduct_2 ?_
  obtain ⟨q_1, hq_1, h⟩ := kf_bd h
  refine wa_callV (st2 := []) (c_X6_readUnit hdd hty hrs v0 v1 v2 k_v0 k_v1 σ hq_1) mv_X6_readUnit ml_X6_185 k_v0 rfl (by omega) rfl (Nat.le_of_ble_eq_true rfl) E d_X6_readProduct_3 rfl ?_
  refine wa_iconst 0 ic_0 E d_X6_readProduct_6 ?_
  refine wa_istore_n (lv' := [(3, .int 0), (0, .ref (kf_ad G v0)), (1, .ref (kf_ad G v1)), (2, .int v2)]) rfl (by decide) rfl E d_X6_readProduct_7 ?_
  refine wa_sub [1, 2, 3, 0] rfl ?_
  exact b_X6_readProduct_8 hdd E hty hrs kf_F v0 v1 v2 0 k_v0 k_v1 q_1 h
/-! X6_readSum -/
theorem d_X6_readSum_0 : kf_dq cX6_readSum 0 1 1 (.aload_n 0) := ⟨by decide +kernel, rfl⟩
theorem d_X6_readSum_1 : kf_dq cX6_readSum 1 2 1 (.aload_n 1) := ⟨by decide +kernel, rfl⟩
theorem d_X6_readSum_2 : kf_dq cX6_readSum 2 3 1 (.iload_n 2) := ⟨by decide +kernel, rfl⟩
theorem d_X6_readSum_3 : kf_dq cX6_readSum 3 6 3 (.invokevirtual 182) := ⟨by decide +kernel, rfl⟩
theorem d_X6_readSum_6 : kf_dq cX6_readSum 6 7 1 (.iconst 0) := ⟨by decide +kernel, rfl⟩
theorem d_X6_readSum_7 : kf_dq cX6_readSum 7 8 1 (.istore_n 3) := ⟨by decide +kernel, rfl⟩
theorem d_X6_readSum_8 : kf_dq cX6_readSum 8 9 1 (.iload_n 3) := ⟨by decide +kernel, rfl⟩
theorem d_X6_readSum_9 : kf_dq cX6_readSum 9 12 3 (.sipush 400) := ⟨by decide +kernel, rfl⟩
theorem d_X6_readSum_12 : kf_dj cX6_readSum 12 15 81 (.if_icmp .ge) := ⟨69, by decide +kernel, rfl, by decide⟩
theorem d_X6_readSum_15 : kf_dq cX6_readSum 15 16 1 (.aload_n 0) := ⟨by decide +kernel, rfl⟩
theorem d_X6_readSum_16 : kf_dq cX6_readSum 16 19 3 (.getfield 43) := ⟨by decide +kernel, rfl⟩
theorem d_X6_readSum_19 : kf_dj cX6_readSum 19 22 81 (.ifCond .ne) := ⟨62, by decide +kernel, rfl, by decide⟩
theorem d_X6_readSum_22 : kf_dq cX6_readSum 22 23 1 (.aload_n 0) := ⟨by decide +kernel, rfl⟩
theorem d_X6_readSum_23 : kf_dq cX6_readSum 23 26 3 (.getfield 40) := ⟨by decide +kernel, rfl⟩
theorem d_X6_readSum_26 : kf_dq cX6_readSum 26 28 2 (.bipush 43) := ⟨by decide +kernel, rfl⟩
theorem d_X6_readSum_28 : kf_dj cX6_readSum 28 31 40 (.if_icmp .eq) := ⟨12, by decide +kernel, rfl, by decide⟩
theorem d_X6_readSum_31 : kf_dq cX6_readSum 31 32 1 (.aload_n 0) := ⟨by decide +kernel, rfl⟩
theorem d_X6_readSum_32 : kf_dq cX6_readSum 32 35 3 (.getfield 40) := ⟨by decide +kernel, rfl⟩
theorem d_X6_readSum_35 : kf_dq cX6_readSum 35 37 2 (.bipush 45) := ⟨by decide +kernel, rfl⟩
theorem d_X6_readSum_37 : kf_dj cX6_readSum 37 40 81 (.if_icmp .ne) := ⟨44, by decide +kernel, rfl, by decide⟩
theorem d_X6_readSum_40 : kf_dq cX6_readSum 40 41 1 (.aload_n 0) := ⟨by decide +kernel, rfl⟩
theorem d_X6_readSum_41 : kf_dq cX6_readSum 41 44 3 (.getfield 40) := ⟨by decide +kernel, rfl⟩
theorem d_X6_readSum_44 : kf_dq cX6_readSum 44 46 2 (.istore 4) := ⟨by decide +kernel, rfl⟩
theorem d_X6_readSum_46 : kf_dq cX6_readSum 46 47 1 (.aload_n 0) := ⟨by decide +kernel, rfl⟩
theorem d_X6_readSum_47 : kf_dq cX6_readSum 47 49 2 (.iload 4) := ⟨by decide +kernel, rfl⟩
theorem d_X6_readSum_49 : kf_dq cX6_readSum 49 52 3 (.invokevirtual 101) := ⟨by decide +kernel, rfl⟩
theorem d_X6_readSum_52 : kf_dq cX6_readSum 52 53 1 (.aload_n 0) := ⟨by decide +kernel, rfl⟩
theorem d_X6_readSum_53 : kf_dq cX6_readSum 53 54 1 (.aload_n 1) := ⟨by decide +kernel, rfl⟩
theorem d_X6_readSum_54 : kf_dq cX6_readSum 54 55 1 (.iload_n 2) := ⟨by decide +kernel, rfl⟩
theorem d_X6_readSum_55 : kf_dq cX6_readSum 55 58 3 (.invokevirtual 182) := ⟨by decide +kernel, rfl⟩
theorem d_X6_readSum_58 : kf_dq cX6_readSum 58 59 1 (.aload_n 1) := ⟨by decide +kernel, rfl⟩
theorem d_X6_readSum_59 : kf_dq cX6_readSum 59 61 2 (.iload 4) := ⟨by decide +kernel, rfl⟩
theorem d_X6_readSum_61 : kf_dq cX6_readSum 61 63 2 (.bipush 43) := ⟨by decide +kernel, rfl⟩
theorem d_X6_readSum_63 : kf_dj cX6_readSum 63 66 70 (.if_icmp .ne) := ⟨7, by decide +kernel, rfl, by decide⟩
theorem d_X6_readSum_66 : kf_dq cX6_readSum 66 67 1 (.iconst 2) := ⟨by decide +kernel, rfl⟩
theorem d_X6_readSum_67 : kf_dj cX6_readSum 67 70 71 .goto := ⟨4, by decide +kernel, rfl, by decide⟩
theorem d_X6_readSum_70 : kf_dq cX6_readSum 70 71 1 (.iconst 3) := ⟨by decide +kernel, rfl⟩
theorem d_X6_readSum_71 : kf_dq cX6_readSum 71 72 1 (.iconst 0) := ⟨by decide +kernel, rfl⟩
theorem d_X6_readSum_72 : kf_dq cX6_readSum 72 75 3 (.invokevirtual 175) := ⟨by decide +kernel, rfl⟩
theorem d_X6_readSum_75 : kf_dq cX6_readSum 75 78 3 (.iinc 3 1) := ⟨by decide +kernel, rfl⟩
theorem d_X6_readSum_78 : kf_dj cX6_readSum 78 81 8 .goto := ⟨(-70), by decide +kernel, rfl, by decide⟩
theorem d_X6_readSum_81 : kf_dq cX6_readSum 81 82 1 (.return_) := ⟨by decide +kernel, rfl⟩
def f_X6_readSum_71 (rs : Nat → Nat → Int32 → kf_St → Option kf_St) (rec8 : Nat → Nat → Int32 → Int32 → kf_St → Option kf_St) (v0 : Nat) (v1 : Nat) (v2 : Int32) (v3 : Int32) (s0 : Nat) (s1 : Int32) (σ : kf_St) : Option kf_St :=
  (f_X2_put s0 s1 0 σ).bind fun q_1 =>
  kf_lt (v3 + 1) fun v3_2 =>
  rec8 v0 v1 v2 v3_2 q_1
set_option maxRecDepth 100000 in
set_option maxHeartbeats 4000000 in
theorem b_X6_readSum_71 {X : kf_X} {G : kf_G} {dd : Nat} (hdd : 10 ≤ dd) {rs : Nat → Nat → Int32 → kf_St → Option kf_St} {rec8 : Nat → Nat → Int32 → Int32 → kf_St → Option kf_St} {q : kf_St} (E : kf_ok X G cX6_readSum RX6 5 none (dd + 3)) (hty : kf_wt G) (hrs : ∀ (v0 v1 : Nat) (v2 : Int32) (_ : kf_kd G v0 = 7) (_ : kf_kd G v1 = 3) (σ : kf_St) {q : kf_St}, rs v0 v1 v2 σ = some q → kf_Ct dd yX6_readSum cX6_readSum 5 none G [.ref (kf_ad G v0), .ref (kf_ad G v1), .int v2] σ none q) (hrec8 : ∀ (v0 : Nat) (v1 : Nat) (v2 : Int32) (v3 : Int32) (k_v0 : kf_kd G v0 = 7) (k_v1 : kf_kd G v1 = 3) (σ : kf_St), rec8 v0 v1 v2 v3 σ = some q → kf_WA X G 5 (kf_Q X G none q) 8 [(0, .ref (kf_ad G v0)), (1, .ref (kf_ad G v1)), (2, .int v2), (3, .int v3)] [] σ) (v0 : Nat) (v1 : Nat) (v2 : Int32) (v3 : Int32) (s0 : Nat) (s1 : Int32) (k_v0 : kf_kd G v0 = 7) (k_v1 : kf_kd G v1 = 3) (k_s0 : kf_kd G s0 = 3) (σ : kf_St) (h : f_X6_readSum_71 rs rec8 v0 v1 v2 v3 s0 s1 σ = some q) : kf_WA X G 5 (kf_Q X G none q) 71 [(0, .ref (kf_ad G v0)), (1, .ref (kf_ad G v1)), (2, .int v2), (3, .int v3)] [.int s1, .ref (kf_ad G s0)] σ := by
  unfold f_X6_readSum_71 at h
  refine wa_iconst 0 ic_0 E d_X6_readSum_71 ?_
  obtain ⟨q_1, hq_1, h⟩ := kf_bd h
  refine wa_callV (st2 := []) (c_X2_put hty s0 s1 0 k_s0 σ hq_1) mv_X2_put ml_X6_175 k_s0 rfl (by omega) rfl (Nat.le_of_ble_eq_true rfl) E d_X6_readSum_72 rfl ?_
  obtain ⟨v3_2, ev3_2, h⟩ := kf_lte h
  refine wa_iinc (lv' := [(3, .int v3_2), (0, .ref (kf_ad G v0)), (1, .ref (kf_ad G v1)), (2, .int v2)]) v3_2 3 rfl (kf_inc ic_1 ev3_2) (by decide) rfl E d_X6_readSum_75 ?_
  refine wa_goto E d_X6_readSum_78 ?_
  refine wa_sub [1, 2, 3, 0] rfl ?_
  exact hrec8 v0 v1 v2 v3_2 k_v0 k_v1 q_1 h
def f_X6_readSum_40 (rs : Nat → Nat → Int32 → kf_St → Option kf_St) (rec8 : Nat → Nat → Int32 → Int32 → kf_St → Option kf_St) (v0 : Nat) (v1 : Nat) (v2 : Int32) (v3 : Int32) (σ : kf_St) : Option kf_St :=
  kf_lt ((σ.1 v0 5)) fun v4_1 =>
  (f_X6_take v0 v4_1 σ).bind fun q_2 =>
  (f_X6_readProduct rs v0 v1 v2 q_2).bind fun q_3 =>
  if v4_1 = 43 then
    f_X6_readSum_71 rs rec8 v0 v1 v2 v3 v1 2 q_3
  else
    f_X6_readSum_71 rs rec8 v0 v1 v2 v3 v1 3 q_3
set_option maxRecDepth 100000 in
set_option maxHeartbeats 4000000 in
theorem b_X6_readSum_40 {X : kf_X} {G : kf_G} {dd : Nat} (hdd : 10 ≤ dd) {rs : Nat → Nat → Int32 → kf_St → Option kf_St} {rec8 : Nat → Nat → Int32 → Int32 → kf_St → Option kf_St} {q : kf_St} (E : kf_ok X G cX6_readSum RX6 5 none (dd + 3)) (hty : kf_wt G) (hrs : ∀ (v0 v1 : Nat) (v2 : Int32) (_ : kf_kd G v0 = 7) (_ : kf_kd G v1 = 3) (σ : kf_St) {q : kf_St}, rs v0 v1 v2 σ = some q → kf_Ct dd yX6_readSum cX6_readSum 5 none G [.ref (kf_ad G v0), .ref (kf_ad G v1), .int v2] σ none q) (hrec8 : ∀ (v0 : Nat) (v1 : Nat) (v2 : Int32) (v3 : Int32) (k_v0 : kf_kd G v0 = 7) (k_v1 : kf_kd G v1 = 3) (σ : kf_St), rec8 v0 v1 v2 v3 σ = some q → kf_WA X G 5 (kf_Q X G none q) 8 [(0, .ref (kf_ad G v0)), (1, .ref (kf_ad G v1)), (2, .int v2), (3, .int v3)] [] σ) (v0 : Nat) (v1 : Nat) (v2 : Int32) (v3 : Int32) (k_v0 : kf_kd G v0 = 7) (k_v1 : kf_kd G v1 = 3) (σ : kf_St) (h : f_X6_readSum_40 rs rec8 v0 v1 v2 v3 σ = some q) : kf_WA X G 5 (kf_Q X G none q) 40 [(0, .ref (kf_ad G v0)), (1, .ref (kf_ad G v1)), (2, .int v2), (3, .int v3)] [] σ := by
  unfold f_X6_readSum_40 at h
  refine wa_aload_n 0 rfl E d_X6_readSum_40 ?_
  refine wa_getI fl_X6_40 k_v0 rfl E d_X6_readSum_41 ?_
  obtain ⟨v4_1, ev4_1, h⟩ := kf_lte h
  refine wa_topi ev4_1 ?_
  refine wa_istore (lv' := [(4, .int v4_1), (0, .ref (kf_ad G v0)), (1, .ref (kf_ad G v1)), (2, .int v2), (3, .int v3)]) (by decide) rfl E d_X6_readSum_44 ?_
  refine wa_aload_n 1 rfl E d_X6_readSum_46 ?_
  refine wa_iload 0 rfl E d_X6_readSum_47 ?_
  obtain ⟨q_2, hq_2, h⟩ := kf_bd h
  refine wa_callV (st2 := []) (c_X6_take hty v0 v4_1 k_v0 σ hq_2) mv_X6_take ml_X6_101 k_v0 rfl (by omega) rfl (Nat.le_of_ble_eq_true rfl) E d_X6_readSum_49 rfl ?_
  refine wa_aload_n 1 rfl E d_X6_readSum_52 ?_
  refine wa_aload_n 2 rfl E d_X6_readSum_53 ?_
  refine wa_iload_n 3 rfl E d_X6_readSum_54 ?_
  obtain ⟨q_3, hq_3, h⟩ := kf_bd h
  refine wa_callV (st2 := []) (c_X6_readProduct hdd hty hrs v0 v1 v2 k_v0 k_v1 q_2 hq_3) mv_X6_readProduct ml_X6_182 k_v0 rfl (by omega) rfl (Nat.le_of_ble_eq_true rfl) E d_X6_readSum_55 rfl ?_
  refine wa_aload_n 2 rfl E d_X6_readSum_58 ?_
  refine wa_iload 0 rfl E d_X6_readSum_59 ?_
  refine wa_bipush 43 bp_43 E d_X6_readSum_61 ?_
  refine wa_icmp_ne E d_X6_readSum_63 (fun c_4 => ?_) (fun c_4 => ?_)
  · replace h := kf_iff c_4 h
    refine wa_iconst 3 ic_3 E d_X6_readSum_70 ?_
    refine wa_sub [1, 2, 3, 4] rfl ?_
    exact b_X6_readSum_71 hdd E hty hrs hrec8 v0 v1 v2 v3 v1 3 k_v0 k_v1 k_v1 q_3 h
  · replace h := kf_ift c_4 h
    refine wa_iconst 2 ic_2 E d_X6_readSum_66 ?_
    refine wa_goto E d_X6_readSum_67 ?_
    refine wa_sub [1, 2, 3, 4] rfl ?_
    exact b_X6_readSum_71 hdd E hty hrs hrec8 v0 v1 v2 v3 v1 2 k_v0 k_v1 k_v1 q_3 h
def f_X6_readSum_8_s (rs : Nat → Nat → Int32 → kf_St → Option kf_St) (rec8 : Nat → Nat → Int32 → Int32 → kf_St → Option kf_St) (v0 : Nat) (v1 : Nat) (v2 : Int32) (v3 : Int32) (σ : kf_St) : Option kf_St :=
  if 400 ≤ v3 then
    some σ
  else
    if (σ.1 v0 0) = 0 then
      if (σ.1 v0 5) = 43 then
        f_X6_readSum_40 rs rec8 v0 v1 v2 v3 σ
      else
        if (σ.1 v0 5) = 45 then
          f_X6_readSum_40 rs rec8 v0 v1 v2 v3 σ
        else
          some σ
    else
      some σ
def f_X6_readSum_8 (rs : Nat → Nat → Int32 → kf_St → Option kf_St) : Nat → Nat → Nat → Int32 → Int32 → kf_St → Option kf_St
  | 0, _, _, _, _, _ => none
  | n + 1, v0, v1, v2, v3, σ => f_X6_readSum_8_s rs (f_X6_readSum_8 rs n) v0 v1 v2 v3 σ
set_option maxRecDepth 100000 in
set_option maxHeartbeats 4000000 in
theorem b_X6_readSum_8_s {X : kf_X} {G : kf_G} {dd : Nat} (hdd : 10 ≤ dd) {rs : Nat → Nat → Int32 → kf_St → Option kf_St} (rec8 : Nat → Nat → Int32 → Int32 → kf_St → Option kf_St) {q : kf_St} (E : kf_ok X G cX6_readSum RX6 5 none (dd + 3)) (hty : kf_wt G) (hrs : ∀ (v0 v1 : Nat) (v2 : Int32) (_ : kf_kd G v0 = 7) (_ : kf_kd G v1 = 3) (σ : kf_St) {q : kf_St}, rs v0 v1 v2 σ = some q → kf_Ct dd yX6_readSum cX6_readSum 5 none G [.ref (kf_ad G v0), .ref (kf_ad G v1), .int v2] σ none q) (hrec8 : ∀ (v0 : Nat) (v1 : Nat) (v2 : Int32) (v3 : Int32) (k_v0 : kf_kd G v0 = 7) (k_v1 : kf_kd G v1 = 3) (σ : kf_St), rec8 v0 v1 v2 v3 σ = some q → kf_WA X G 5 (kf_Q X G none q) 8 [(0, .ref (kf_ad G v0)), (1, .ref (kf_ad G v1)), (2, .int v2), (3, .int v3)] [] σ) (v0 : Nat) (v1 : Nat) (v2 : Int32) (v3 : Int32) (k_v0 : kf_kd G v0 = 7) (k_v1 : kf_kd G v1 = 3) (σ : kf_St) (h : f_X6_readSum_8_s rs rec8 v0 v1 v2 v3 σ = some q) : kf_WA X G 5 (kf_Q X G none q) 8 [(0, .ref (kf_ad G v0)), (1, .ref (kf_ad G v1)), (2, .int v2), (3, .int v3)] [] σ := by
  unfold f_X6_readSum_8_s at h
  refine wa_iload_n 3 rfl E d_X6_readSum_8 ?_
  refine wa_sipush 400 sp_400 E d_X6_readSum_9 ?_
  refine wa_icmp_ge E d_X6_readSum_12 (fun c_1 => ?_) (fun c_1 => ?_)
  · replace h := kf_ift c_1 h
    cases h
    exact wa_vret E d_X6_readSum_81
  · replace h := kf_iff c_1 h
    refine wa_aload_n 0 rfl E d_X6_readSum_15 ?_
    refine wa_getI fl_X6_43 k_v0 rfl E d_X6_readSum_16 ?_
    refine wa_if_ne E d_X6_readSum_19 (fun c_2 => ?_) (fun c_2 => ?_)
    · replace h := kf_iff c_2 h
      cases h
      exact wa_vret E d_X6_readSum_81
    · replace h := kf_ift c_2 h
      refine wa_aload_n 0 rfl E d_X6_readSum_22 ?_
      refine wa_getI fl_X6_40 k_v0 rfl E d_X6_readSum_23 ?_
      refine wa_bipush 43 bp_43 E d_X6_readSum_26 ?_
      refine wa_icmp_eq E d_X6_readSum_28 (fun c_3 => ?_) (fun c_3 => ?_)
      · replace h := kf_ift c_3 h
        exact b_X6_readSum_40 hdd E hty hrs hrec8 v0 v1 v2 v3 k_v0 k_v1 σ h
      · replace h := kf_iff c_3 h
        refine wa_aload_n 0 rfl E d_X6_readSum_31 ?_
        refine wa_getI fl_X6_40 k_v0 rfl E d_X6_readSum_32 ?_
        refine wa_bipush 45 bp_45 E d_X6_readSum_35 ?_
        refine wa_icmp_ne E d_X6_readSum_37 (fun c_4 => ?_) (fun c_4 => ?_)
        · replace h := kf_iff c_4 h
          cases h
          exact wa_vret E d_X6_readSum_81
        · replace h := kf_ift c_4 h
          exact b_X6_readSum_40 hdd E hty hrs hrec8 v0 v1 v2 v3 k_v0 k_v1 σ h
theorem b_X6_readSum_8 {X : kf_X} {G : kf_G} {dd : Nat} (hdd : 10 ≤ dd) {rs : Nat → Nat → Int32 → kf_St → Option kf_St} {q : kf_St} (E : kf_ok X G cX6_readSum RX6 5 none (dd + 3)) (hty : kf_wt G) (hrs : ∀ (v0 v1 : Nat) (v2 : Int32) (_ : kf_kd G v0 = 7) (_ : kf_kd G v1 = 3) (σ : kf_St) {q : kf_St}, rs v0 v1 v2 σ = some q → kf_Ct dd yX6_readSum cX6_readSum 5 none G [.ref (kf_ad G v0), .ref (kf_ad G v1), .int v2] σ none q) : ∀ (N : Nat) (v0 : Nat) (v1 : Nat) (v2 : Int32) (v3 : Int32) (k_v0 : kf_kd G v0 = 7) (k_v1 : kf_kd G v1 = 3) (σ : kf_St) (_ : f_X6_readSum_8 rs N v0 v1 v2 v3 σ = some q), kf_WA X G 5 (kf_Q X G none q) 8 [(0, .ref (kf_ad G v0)), (1, .ref (kf_ad G v1)), (2, .int v2), (3, .int v3)] [] σ
  | 0, _, _, _, _, _, _, _, h => by cases h
  | N + 1, v0, v1, v2, v3, k_v0, k_v1, σ, h => b_X6_readSum_8_s hdd _ E hty hrs (b_X6_readSum_8 hdd E hty hrs N) v0 v1 v2 v3 k_v0 k_v1 σ h
def f_X6_readSum (rs : Nat → Nat → Int32 → kf_St → Option kf_St) (v0 : Nat) (v1 : Nat) (v2 : Int32) (σ : kf_St) : Option kf_St :=
  (f_X6_readProduct rs v0 v1 v2 σ).bind fun q_1 =>
  f_X6_readSum_8 rs kf_F v0 v1 v2 0 q_1
set_option maxRecDepth 100000 in
set_option maxHeartbeats 4000000 in
theorem c_X6_readSum {G : kf_G} {dd : Nat} (hdd : 10 ≤ dd) {rs : Nat → Nat → Int32 → kf_St → Option kf_St} (hty : kf_wt G) (hrs : ∀ (v0 v1 : Nat) (v2 : Int32) (_ : kf_kd G v0 = 7) (_ : kf_kd G v1 = 3) (σ : kf_St) {q : kf_St}, rs v0 v1 v2 σ = some q → kf_Ct dd yX6_readSum cX6_readSum 5 none G [.ref (kf_ad G v0), .ref (kf_ad G v1), .int v2] σ none q) (v0 : Nat) (v1 : Nat) (v2 : Int32) (k_v0 : kf_kd G v0 = 7) (k_v1 : kf_kd G v1 = 3) (σ : kf_St) {q : kf_St} (h : f_X6_readSum rs v0 v1 v2 σ = some q) : kf_Ct (dd + 3) yX6_readSum cX6_readSum 5 none G [.ref (kf_ad G v0), .ref (kf_ad G v1), .int v2] σ none q := by
  refine kf_Ct.of hty.1 (lv := [(0, .ref (kf_ad G v0)), (1, .ref (kf_ad G v1)), (2, .int v2)]) (by decide +kernel) rfl (Nat.le_of_ble_eq_true rfl) (fun X E => ?_)
  unfold f_X6_readSum at h
  refine wa_aload_n 0 rfl E d_X6_readSum_0 ?_
  refine wa_aload_n 1 rfl E d_X6_readSum_1 ?_
  refine wa_iload_n 2 rfl E d_X6_readSum_2 ?_
  obtain ⟨q_1, hq_1, h⟩ := kf_bd h
  refine wa_callV (st2 := []) (c_X6_readProduct hdd hty hrs v0 v1 v2 k_v0 k_v1 σ hq_1) mv_X6_readProduct ml_X6_182 k_v0 rfl (by omega) rfl (Nat.le_of_ble_eq_true rfl) E d_X6_readSum_3 rfl ?_
  refine wa_iconst 0 ic_0 E d_X6_readSum_6 ?_
  refine wa_istore_n (lv' := [(3, .int 0), (0, .ref (kf_ad G v0)), (1, .ref (kf_ad G v1)), (2, .int v2)]) rfl (by decide) rfl E d_X6_readSum_7 ?_
  refine wa_sub [1, 2, 3, 0] rfl ?_
  exact b_X6_readSum_8 hdd E hty hrs kf_F v0 v1 v2 0 k_v0 k_v1 q_1 h
def f_X6_readSumN : Nat → Nat → Nat → Int32 → kf_St → Option kf_St
  | 0, _, _, _, _ => none
  | n + 1, v0, v1, v2, σ => f_X6_readSum (f_X6_readSumN n) v0 v1 v2 σ
theorem c_X6_readSumN {G : kf_G} (hty : kf_wt G) : ∀ (N : Nat) (v0 v1 : Nat) (v2 : Int32) (_ : kf_kd G v0 = 7) (_ : kf_kd G v1 = 3) (σ : kf_St) {q : kf_St} (_ : f_X6_readSumN N v0 v1 v2 σ = some q), kf_Ct (10 + 3 * N) yX6_readSum cX6_readSum 5 none G [.ref (kf_ad G v0), .ref (kf_ad G v1), .int v2] σ none q
  | 0, _, _, _, _, _, _, _, h => by cases h
  | N + 1, v0, v1, v2, k0, k1, σ, q, h => kf_Ct_d (c_X6_readSum (dd := 10 + 3 * N) (by omega) hty (fun a b c ka kb s _ hh => c_X6_readSumN hty N a b c ka kb s hh) v0 v1 v2 k0 k1 σ h) (by omega)
/-! X6_readLaw -/
theorem d_X6_readLaw_0 : kf_dq cX6_readLaw 0 1 1 (.aload_n 0) := ⟨by decide +kernel, rfl⟩
theorem d_X6_readLaw_1 : kf_dq cX6_readLaw 1 2 1 (.aload_n 0) := ⟨by decide +kernel, rfl⟩
theorem d_X6_readLaw_2 : kf_dq cX6_readLaw 2 5 3 (.getfield 40) := ⟨by decide +kernel, rfl⟩
theorem d_X6_readLaw_5 : kf_dq cX6_readLaw 5 8 3 (.invokevirtual 101) := ⟨by decide +kernel, rfl⟩
theorem d_X6_readLaw_8 : kf_dq cX6_readLaw 8 9 1 (.aload_n 0) := ⟨by decide +kernel, rfl⟩
theorem d_X6_readLaw_9 : kf_dq cX6_readLaw 9 11 2 (.bipush 61) := ⟨by decide +kernel, rfl⟩
theorem d_X6_readLaw_11 : kf_dq cX6_readLaw 11 14 3 (.invokevirtual 101) := ⟨by decide +kernel, rfl⟩
theorem d_X6_readLaw_14 : kf_dq cX6_readLaw 14 15 1 (.aload_n 1) := ⟨by decide +kernel, rfl⟩
theorem d_X6_readLaw_15 : kf_dq cX6_readLaw 15 18 3 (.invokevirtual 165) := ⟨by decide +kernel, rfl⟩
theorem d_X6_readLaw_18 : kf_dq cX6_readLaw 18 19 1 (.iconst 0) := ⟨by decide +kernel, rfl⟩
theorem d_X6_readLaw_19 : kf_dq cX6_readLaw 19 20 1 (.istore_n 2) := ⟨by decide +kernel, rfl⟩
theorem d_X6_readLaw_20 : kf_dq cX6_readLaw 20 21 1 (.iload_n 2) := ⟨by decide +kernel, rfl⟩
theorem d_X6_readLaw_21 : kf_dq cX6_readLaw 21 22 1 (.iconst 4) := ⟨by decide +kernel, rfl⟩
theorem d_X6_readLaw_22 : kf_dj cX6_readLaw 22 25 131 (.if_icmp .gt) := ⟨109, by decide +kernel, rfl, by decide⟩
theorem d_X6_readLaw_25 : kf_dq cX6_readLaw 25 26 1 (.aload_n 0) := ⟨by decide +kernel, rfl⟩
theorem d_X6_readLaw_26 : kf_dq cX6_readLaw 26 29 3 (.getfield 43) := ⟨by decide +kernel, rfl⟩
theorem d_X6_readLaw_29 : kf_dj cX6_readLaw 29 32 131 (.ifCond .ne) := ⟨102, by decide +kernel, rfl, by decide⟩
theorem d_X6_readLaw_32 : kf_dq cX6_readLaw 32 33 1 (.aload_n 0) := ⟨by decide +kernel, rfl⟩
theorem d_X6_readLaw_33 : kf_dq cX6_readLaw 33 36 3 (.getfield 40) := ⟨by decide +kernel, rfl⟩
theorem d_X6_readLaw_36 : kf_dq cX6_readLaw 36 39 3 (.sipush 265) := ⟨by decide +kernel, rfl⟩
theorem d_X6_readLaw_39 : kf_dj cX6_readLaw 39 42 131 (.if_icmp .ne) := ⟨92, by decide +kernel, rfl, by decide⟩
theorem d_X6_readLaw_42 : kf_dq cX6_readLaw 42 43 1 (.iload_n 2) := ⟨by decide +kernel, rfl⟩
theorem d_X6_readLaw_43 : kf_dq cX6_readLaw 43 44 1 (.iconst 4) := ⟨by decide +kernel, rfl⟩
theorem d_X6_readLaw_44 : kf_dj cX6_readLaw 44 47 52 (.if_icmp .ne) := ⟨8, by decide +kernel, rfl, by decide⟩
theorem d_X6_readLaw_47 : kf_dq cX6_readLaw 47 48 1 (.aload_n 0) := ⟨by decide +kernel, rfl⟩
theorem d_X6_readLaw_48 : kf_dq cX6_readLaw 48 49 1 (.iconst 2) := ⟨by decide +kernel, rfl⟩
theorem d_X6_readLaw_49 : kf_dq cX6_readLaw 49 52 3 (.invokevirtual 97) := ⟨by decide +kernel, rfl⟩
theorem d_X6_readLaw_52 : kf_dq cX6_readLaw 52 53 1 (.aload_n 0) := ⟨by decide +kernel, rfl⟩
theorem d_X6_readLaw_53 : kf_dq cX6_readLaw 53 56 3 (.sipush 265) := ⟨by decide +kernel, rfl⟩
theorem d_X6_readLaw_56 : kf_dq cX6_readLaw 56 59 3 (.invokevirtual 101) := ⟨by decide +kernel, rfl⟩
theorem d_X6_readLaw_59 : kf_dq cX6_readLaw 59 60 1 (.aload_n 0) := ⟨by decide +kernel, rfl⟩
theorem d_X6_readLaw_60 : kf_dq cX6_readLaw 60 61 1 (.aload_n 1) := ⟨by decide +kernel, rfl⟩
theorem d_X6_readLaw_61 : kf_dq cX6_readLaw 61 62 1 (.iconst 0) := ⟨by decide +kernel, rfl⟩
theorem d_X6_readLaw_62 : kf_dq cX6_readLaw 62 65 3 (.invokevirtual 168) := ⟨by decide +kernel, rfl⟩
theorem d_X6_readLaw_65 : kf_dq cX6_readLaw 65 66 1 (.aload_n 0) := ⟨by decide +kernel, rfl⟩
theorem d_X6_readLaw_66 : kf_dq cX6_readLaw 66 68 2 (.bipush 60) := ⟨by decide +kernel, rfl⟩
theorem d_X6_readLaw_68 : kf_dq cX6_readLaw 68 71 3 (.invokevirtual 101) := ⟨by decide +kernel, rfl⟩
theorem d_X6_readLaw_71 : kf_dq cX6_readLaw 71 72 1 (.aload_n 0) := ⟨by decide +kernel, rfl⟩
theorem d_X6_readLaw_72 : kf_dq cX6_readLaw 72 73 1 (.aload_n 1) := ⟨by decide +kernel, rfl⟩
theorem d_X6_readLaw_73 : kf_dq cX6_readLaw 73 74 1 (.iconst 0) := ⟨by decide +kernel, rfl⟩
theorem d_X6_readLaw_74 : kf_dq cX6_readLaw 74 77 3 (.invokevirtual 168) := ⟨by decide +kernel, rfl⟩
theorem d_X6_readLaw_77 : kf_dq cX6_readLaw 77 78 1 (.aload_n 0) := ⟨by decide +kernel, rfl⟩
theorem d_X6_readLaw_78 : kf_dq cX6_readLaw 78 81 3 (.sipush 266) := ⟨by decide +kernel, rfl⟩
theorem d_X6_readLaw_81 : kf_dq cX6_readLaw 81 84 3 (.invokevirtual 101) := ⟨by decide +kernel, rfl⟩
theorem d_X6_readLaw_84 : kf_dq cX6_readLaw 84 85 1 (.aload_n 1) := ⟨by decide +kernel, rfl⟩
theorem d_X6_readLaw_85 : kf_dq cX6_readLaw 85 88 3 (.getfield 172) := ⟨by decide +kernel, rfl⟩
theorem d_X6_readLaw_88 : kf_dq cX6_readLaw 88 89 1 (.istore_n 3) := ⟨by decide +kernel, rfl⟩
theorem d_X6_readLaw_89 : kf_dq cX6_readLaw 89 90 1 (.aload_n 1) := ⟨by decide +kernel, rfl⟩
theorem d_X6_readLaw_90 : kf_dq cX6_readLaw 90 92 2 (.bipush 6) := ⟨by decide +kernel, rfl⟩
theorem d_X6_readLaw_92 : kf_dq cX6_readLaw 92 93 1 (.iconst 0) := ⟨by decide +kernel, rfl⟩
theorem d_X6_readLaw_93 : kf_dq cX6_readLaw 93 96 3 (.invokevirtual 175) := ⟨by decide +kernel, rfl⟩
theorem d_X6_readLaw_96 : kf_dq cX6_readLaw 96 97 1 (.aload_n 0) := ⟨by decide +kernel, rfl⟩
theorem d_X6_readLaw_97 : kf_dq cX6_readLaw 97 98 1 (.aload_n 1) := ⟨by decide +kernel, rfl⟩
theorem d_X6_readLaw_98 : kf_dq cX6_readLaw 98 99 1 (.iconst 0) := ⟨by decide +kernel, rfl⟩
theorem d_X6_readLaw_99 : kf_dq cX6_readLaw 99 102 3 (.invokevirtual 168) := ⟨by decide +kernel, rfl⟩
theorem d_X6_readLaw_102 : kf_dq cX6_readLaw 102 103 1 (.aload_n 0) := ⟨by decide +kernel, rfl⟩
theorem d_X6_readLaw_103 : kf_dq cX6_readLaw 103 106 3 (.sipush 267) := ⟨by decide +kernel, rfl⟩
theorem d_X6_readLaw_106 : kf_dq cX6_readLaw 106 109 3 (.invokevirtual 101) := ⟨by decide +kernel, rfl⟩
theorem d_X6_readLaw_109 : kf_dq cX6_readLaw 109 110 1 (.aload_n 1) := ⟨by decide +kernel, rfl⟩
theorem d_X6_readLaw_110 : kf_dq cX6_readLaw 110 112 2 (.bipush 7) := ⟨by decide +kernel, rfl⟩
theorem d_X6_readLaw_112 : kf_dq cX6_readLaw 112 113 1 (.iconst 0) := ⟨by decide +kernel, rfl⟩
theorem d_X6_readLaw_113 : kf_dq cX6_readLaw 113 116 3 (.invokevirtual 175) := ⟨by decide +kernel, rfl⟩
theorem d_X6_readLaw_116 : kf_dq cX6_readLaw 116 117 1 (.aload_n 1) := ⟨by decide +kernel, rfl⟩
theorem d_X6_readLaw_117 : kf_dq cX6_readLaw 117 118 1 (.iload_n 3) := ⟨by decide +kernel, rfl⟩
theorem d_X6_readLaw_118 : kf_dq cX6_readLaw 118 119 1 (.aload_n 1) := ⟨by decide +kernel, rfl⟩
theorem d_X6_readLaw_119 : kf_dq cX6_readLaw 119 122 3 (.getfield 172) := ⟨by decide +kernel, rfl⟩
theorem d_X6_readLaw_122 : kf_dq cX6_readLaw 122 125 3 (.invokevirtual 179) := ⟨by decide +kernel, rfl⟩
theorem d_X6_readLaw_125 : kf_dq cX6_readLaw 125 128 3 (.iinc 2 1) := ⟨by decide +kernel, rfl⟩
theorem d_X6_readLaw_128 : kf_dj cX6_readLaw 128 131 20 .goto := ⟨(-108), by decide +kernel, rfl, by decide⟩
theorem d_X6_readLaw_131 : kf_dq cX6_readLaw 131 132 1 (.aload_n 0) := ⟨by decide +kernel, rfl⟩
theorem d_X6_readLaw_132 : kf_dq cX6_readLaw 132 133 1 (.aload_n 1) := ⟨by decide +kernel, rfl⟩
theorem d_X6_readLaw_133 : kf_dq cX6_readLaw 133 134 1 (.iconst 0) := ⟨by decide +kernel, rfl⟩
theorem d_X6_readLaw_134 : kf_dq cX6_readLaw 134 137 3 (.invokevirtual 168) := ⟨by decide +kernel, rfl⟩
theorem d_X6_readLaw_137 : kf_dq cX6_readLaw 137 138 1 (.aload_n 1) := ⟨by decide +kernel, rfl⟩
theorem d_X6_readLaw_138 : kf_dq cX6_readLaw 138 140 2 (.bipush 7) := ⟨by decide +kernel, rfl⟩
theorem d_X6_readLaw_140 : kf_dq cX6_readLaw 140 141 1 (.iconst 0) := ⟨by decide +kernel, rfl⟩
theorem d_X6_readLaw_141 : kf_dq cX6_readLaw 141 144 3 (.invokevirtual 175) := ⟨by decide +kernel, rfl⟩
theorem d_X6_readLaw_144 : kf_dq cX6_readLaw 144 145 1 (.return_) := ⟨by decide +kernel, rfl⟩
def f_X6_readLaw_131 (v0 : Nat) (v1 : Nat) (σ : kf_St) : Option kf_St :=
  (f_X6_readSumN 9 v0 v1 0 σ).bind fun q_1 =>
  (f_X2_put v1 7 0 q_1).bind fun q_2 =>
  some q_2
set_option maxRecDepth 100000 in
set_option maxHeartbeats 4000000 in
theorem b_X6_readLaw_131 {X : kf_X} {G : kf_G} {q : kf_St} (E : kf_ok X G cX6_readLaw RX6 4 none (38)) (hty : kf_wt G) (v0 : Nat) (v1 : Nat) (k_v0 : kf_kd G v0 = 7) (k_v1 : kf_kd G v1 = 3) (σ : kf_St) (h : f_X6_readLaw_131 v0 v1 σ = some q) : kf_WA X G 4 (kf_Q X G none q) 131 [(0, .ref (kf_ad G v0)), (1, .ref (kf_ad G v1))] [] σ := by
  unfold f_X6_readLaw_131 at h
  refine wa_aload_n 0 rfl E d_X6_readLaw_131 ?_
  refine wa_aload_n 1 rfl E d_X6_readLaw_132 ?_
  refine wa_iconst 0 ic_0 E d_X6_readLaw_133 ?_
  obtain ⟨q_1, hq_1, h⟩ := kf_bd h
  refine wa_callV (st2 := []) (c_X6_readSumN hty 9 v0 v1 0 k_v0 k_v1 σ hq_1) mv_X6_readSum ml_X6_168 k_v0 rfl (Nat.le_of_ble_eq_true rfl) rfl (Nat.le_of_ble_eq_true rfl) E d_X6_readLaw_134 rfl ?_
  refine wa_aload_n 1 rfl E d_X6_readLaw_137 ?_
  refine wa_bipush 7 bp_7 E d_X6_readLaw_138 ?_
  refine wa_iconst 0 ic_0 E d_X6_readLaw_140 ?_
  obtain ⟨q_2, hq_2, h⟩ := kf_bd h
  refine wa_callV (st2 := []) (c_X2_put hty v1 7 0 k_v1 q_1 hq_2) mv_X2_put ml_X6_175 k_v1 rfl (Nat.le_of_ble_eq_true rfl) rfl (Nat.le_of_ble_eq_true rfl) E d_X6_readLaw_141 rfl ?_
  cases h
  exact wa_vret E d_X6_readLaw_144
def f_X6_readLaw_52 (rec20 : Nat → Nat → Int32 → kf_St → Option kf_St) (v0 : Nat) (v1 : Nat) (v2 : Int32) (σ : kf_St) : Option kf_St :=
  (f_X6_take v0 265 σ).bind fun q_1 =>
  (f_X6_readSumN 9 v0 v1 0 q_1).bind fun q_2 =>
  (f_X6_take v0 60 q_2).bind fun q_3 =>
  (f_X6_readSumN 9 v0 v1 0 q_3).bind fun q_4 =>
  (f_X6_take v0 266 q_4).bind fun q_5 =>
  kf_lt ((q_5.1 v1 0)) fun v3_6 =>
  (f_X2_put v1 6 0 q_5).bind fun q_7 =>
  (f_X6_readSumN 9 v0 v1 0 q_7).bind fun q_8 =>
  (f_X6_take v0 267 q_8).bind fun q_9 =>
  (f_X2_put v1 7 0 q_9).bind fun q_10 =>
  (f_X2_aim v1 v3_6 (q_10.1 v1 0) q_10).bind fun q_11 =>
  kf_lt (v2 + 1) fun v2_12 =>
  rec20 v0 v1 v2_12 q_11
set_option maxRecDepth 100000 in
set_option maxHeartbeats 4000000 in
theorem b_X6_readLaw_52 {X : kf_X} {G : kf_G} {rec20 : Nat → Nat → Int32 → kf_St → Option kf_St} {q : kf_St} (E : kf_ok X G cX6_readLaw RX6 4 none (38)) (hty : kf_wt G) (hrec20 : ∀ (v0 : Nat) (v1 : Nat) (v2 : Int32) (k_v0 : kf_kd G v0 = 7) (k_v1 : kf_kd G v1 = 3) (σ : kf_St), rec20 v0 v1 v2 σ = some q → kf_WA X G 4 (kf_Q X G none q) 20 [(0, .ref (kf_ad G v0)), (1, .ref (kf_ad G v1)), (2, .int v2)] [] σ) (v0 : Nat) (v1 : Nat) (v2 : Int32) (k_v0 : kf_kd G v0 = 7) (k_v1 : kf_kd G v1 = 3) (σ : kf_St) (h : f_X6_readLaw_52 rec20 v0 v1 v2 σ = some q) : kf_WA X G 4 (kf_Q X G none q) 52 [(0, .ref (kf_ad G v0)), (1, .ref (kf_ad G v1)), (2, .int v2)] [] σ := by
  unfold f_X6_readLaw_52 at h
  refine wa_aload_n 0 rfl E d_X6_readLaw_52 ?_
  refine wa_sipush 265 sp_265 E d_X6_readLaw_53 ?_
  obtain ⟨q_1, hq_1, h⟩ := kf_bd h
  refine wa_callV (st2 := []) (c_X6_take hty v0 265 k_v0 σ hq_1) mv_X6_take ml_X6_101 k_v0 rfl (Nat.le_of_ble_eq_true rfl) rfl (Nat.le_of_ble_eq_true rfl) E d_X6_readLaw_56 rfl ?_
  refine wa_aload_n 0 rfl E d_X6_readLaw_59 ?_
  refine wa_aload_n 1 rfl E d_X6_readLaw_60 ?_
  refine wa_iconst 0 ic_0 E d_X6_readLaw_61 ?_
  obtain ⟨q_2, hq_2, h⟩ := kf_bd h
  refine wa_callV (st2 := []) (c_X6_readSumN hty 9 v0 v1 0 k_v0 k_v1 q_1 hq_2) mv_X6_readSum ml_X6_168 k_v0 rfl (Nat.le_of_ble_eq_true rfl) rfl (Nat.le_of_ble_eq_true rfl) E d_X6_readLaw_62 rfl ?_
  refine wa_aload_n 0 rfl E d_X6_readLaw_65 ?_
  refine wa_bipush 60 bp_60 E d_X6_readLaw_66 ?_
  obtain ⟨q_3, hq_3, h⟩ := kf_bd h
  refine wa_callV (st2 := []) (c_X6_take hty v0 60 k_v0 q_2 hq_3) mv_X6_take ml_X6_101 k_v0 rfl (Nat.le_of_ble_eq_true rfl) rfl (Nat.le_of_ble_eq_true rfl) E d_X6_readLaw_68 rfl ?_
  refine wa_aload_n 0 rfl E d_X6_readLaw_71 ?_
  refine wa_aload_n 1 rfl E d_X6_readLaw_72 ?_
  refine wa_iconst 0 ic_0 E d_X6_readLaw_73 ?_
  obtain ⟨q_4, hq_4, h⟩ := kf_bd h
  refine wa_callV (st2 := []) (c_X6_readSumN hty 9 v0 v1 0 k_v0 k_v1 q_3 hq_4) mv_X6_readSum ml_X6_168 k_v0 rfl (Nat.le_of_ble_eq_true rfl) rfl (Nat.le_of_ble_eq_true rfl) E d_X6_readLaw_74 rfl ?_
  refine wa_aload_n 0 rfl E d_X6_readLaw_77 ?_
  refine wa_sipush 266 sp_266 E d_X6_readLaw_78 ?_
  obtain ⟨q_5, hq_5, h⟩ := kf_bd h
  refine wa_callV (st2 := []) (c_X6_take hty v0 266 k_v0 q_4 hq_5) mv_X6_take ml_X6_101 k_v0 rfl (Nat.le_of_ble_eq_true rfl) rfl (Nat.le_of_ble_eq_true rfl) E d_X6_readLaw_81 rfl ?_
  refine wa_aload_n 1 rfl E d_X6_readLaw_84 ?_
  refine wa_getI fl_X6_172 k_v1 rfl E d_X6_readLaw_85 ?_
  obtain ⟨v3_6, ev3_6, h⟩ := kf_lte h
  refine wa_topi ev3_6 ?_
  refine wa_istore_n (lv' := [(3, .int v3_6), (0, .ref (kf_ad G v0)), (1, .ref (kf_ad G v1)), (2, .int v2)]) rfl (by decide) rfl E d_X6_readLaw_88 ?_
  refine wa_aload_n 2 rfl E d_X6_readLaw_89 ?_
  refine wa_bipush 6 bp_6 E d_X6_readLaw_90 ?_
  refine wa_iconst 0 ic_0 E d_X6_readLaw_92 ?_
  obtain ⟨q_7, hq_7, h⟩ := kf_bd h
  refine wa_callV (st2 := []) (c_X2_put hty v1 6 0 k_v1 q_5 hq_7) mv_X2_put ml_X6_175 k_v1 rfl (Nat.le_of_ble_eq_true rfl) rfl (Nat.le_of_ble_eq_true rfl) E d_X6_readLaw_93 rfl ?_
  refine wa_aload_n 1 rfl E d_X6_readLaw_96 ?_
  refine wa_aload_n 2 rfl E d_X6_readLaw_97 ?_
  refine wa_iconst 0 ic_0 E d_X6_readLaw_98 ?_
  obtain ⟨q_8, hq_8, h⟩ := kf_bd h
  refine wa_callV (st2 := []) (c_X6_readSumN hty 9 v0 v1 0 k_v0 k_v1 q_7 hq_8) mv_X6_readSum ml_X6_168 k_v0 rfl (Nat.le_of_ble_eq_true rfl) rfl (Nat.le_of_ble_eq_true rfl) E d_X6_readLaw_99 rfl ?_
  refine wa_aload_n 1 rfl E d_X6_readLaw_102 ?_
  refine wa_sipush 267 sp_267 E d_X6_readLaw_103 ?_
  obtain ⟨q_9, hq_9, h⟩ := kf_bd h
  refine wa_callV (st2 := []) (c_X6_take hty v0 267 k_v0 q_8 hq_9) mv_X6_take ml_X6_101 k_v0 rfl (Nat.le_of_ble_eq_true rfl) rfl (Nat.le_of_ble_eq_true rfl) E d_X6_readLaw_106 rfl ?_
  refine wa_aload_n 2 rfl E d_X6_readLaw_109 ?_
  refine wa_bipush 7 bp_7 E d_X6_readLaw_110 ?_
  refine wa_iconst 0 ic_0 E d_X6_readLaw_112 ?_
  obtain ⟨q_10, hq_10, h⟩ := kf_bd h
  refine wa_callV (st2 := []) (c_X2_put hty v1 7 0 k_v1 q_9 hq_10) mv_X2_put ml_X6_175 k_v1 rfl (Nat.le_of_ble_eq_true rfl) rfl (Nat.le_of_ble_eq_true rfl) E d_X6_readLaw_113 rfl ?_
  refine wa_aload_n 2 rfl E d_X6_readLaw_116 ?_
  refine wa_iload_n 0 rfl E d_X6_readLaw_117 ?_
  refine wa_aload_n 2 rfl E d_X6_readLaw_118 ?_
  refine wa_getI fl_X6_172 k_v1 rfl E d_X6_readLaw_119 ?_
  obtain ⟨q_11, hq_11, h⟩ := kf_bd h
  refine wa_callV (st2 := []) (c_X2_aim hty v1 v3_6 (q_10.1 v1 0) k_v1 q_10 hq_11) mv_X2_aim ml_X6_179 k_v1 rfl (Nat.le_of_ble_eq_true rfl) rfl (Nat.le_of_ble_eq_true rfl) E d_X6_readLaw_122 rfl ?_
  obtain ⟨v2_12, ev2_12, h⟩ := kf_lte h
  refine wa_iinc (lv' := [(2, .int v2_12), (3, .int v3_6), (0, .ref (kf_ad G v0)), (1, .ref (kf_ad G v1))]) v2_12 3 rfl (kf_inc ic_1 ev2_12) (by decide) rfl E d_X6_readLaw_125 ?_
  refine wa_goto E d_X6_readLaw_128 ?_
  refine wa_sub [2, 3, 0] rfl ?_
  exact hrec20 v0 v1 v2_12 k_v0 k_v1 q_11 h
def f_X6_readLaw_20_s (rec20 : Nat → Nat → Int32 → kf_St → Option kf_St) (v0 : Nat) (v1 : Nat) (v2 : Int32) (σ : kf_St) : Option kf_St :=
  if 4 < v2 then
    f_X6_readLaw_131 v0 v1 σ
  else
    if (σ.1 v0 0) = 0 then
      if (σ.1 v0 5) = 265 then
        if v2 = 4 then
          (f_X6_fail v0 2 σ).bind fun q_5 =>
          f_X6_readLaw_52 rec20 v0 v1 v2 q_5
        else
          f_X6_readLaw_52 rec20 v0 v1 v2 σ
      else
        f_X6_readLaw_131 v0 v1 σ
    else
      f_X6_readLaw_131 v0 v1 σ
def f_X6_readLaw_20 : Nat → Nat → Nat → Int32 → kf_St → Option kf_St
  | 0, _, _, _, _ => none
  | n + 1, v0, v1, v2, σ => f_X6_readLaw_20_s (f_X6_readLaw_20 n) v0 v1 v2 σ
set_option maxRecDepth 100000 in
set_option maxHeartbeats 4000000 in
theorem b_X6_readLaw_20_s {X : kf_X} {G : kf_G} (rec20 : Nat → Nat → Int32 → kf_St → Option kf_St) {q : kf_St} (E : kf_ok X G cX6_readLaw RX6 4 none (38)) (hty : kf_wt G) (hrec20 : ∀ (v0 : Nat) (v1 : Nat) (v2 : Int32) (k_v0 : kf_kd G v0 = 7) (k_v1 : kf_kd G v1 = 3) (σ : kf_St), rec20 v0 v1 v2 σ = some q → kf_WA X G 4 (kf_Q X G none q) 20 [(0, .ref (kf_ad G v0)), (1, .ref (kf_ad G v1)), (2, .int v2)] [] σ) (v0 : Nat) (v1 : Nat) (v2 : Int32) (k_v0 : kf_kd G v0 = 7) (k_v1 : kf_kd G v1 = 3) (σ : kf_St) (h : f_X6_readLaw_20_s rec20 v0 v1 v2 σ = some q) : kf_WA X G 4 (kf_Q X G none q) 20 [(0, .ref (kf_ad G v0)), (1, .ref (kf_ad G v1)), (2, .int v2)] [] σ := by
  unfold f_X6_readLaw_20_s at h
  refine wa_iload_n 2 rfl E d_X6_readLaw_20 ?_
  refine wa_iconst 4 ic_4 E d_X6_readLaw_21 ?_
  refine wa_icmp_gt E d_X6_readLaw_22 (fun c_1 => ?_) (fun c_1 => ?_)
  · replace h := kf_ift c_1 h
    refine wa_sub [0, 1] rfl ?_
    exact b_X6_readLaw_131 E hty v0 v1 k_v0 k_v1 σ h
  · replace h := kf_iff c_1 h
    refine wa_aload_n 0 rfl E d_X6_readLaw_25 ?_
    refine wa_getI fl_X6_43 k_v0 rfl E d_X6_readLaw_26 ?_
    refine wa_if_ne E d_X6_readLaw_29 (fun c_2 => ?_) (fun c_2 => ?_)
    · replace h := kf_iff c_2 h
      refine wa_sub [0, 1] rfl ?_
      exact b_X6_readLaw_131 E hty v0 v1 k_v0 k_v1 σ h
    · replace h := kf_ift c_2 h
      refine wa_aload_n 0 rfl E d_X6_readLaw_32 ?_
      refine wa_getI fl_X6_40 k_v0 rfl E d_X6_readLaw_33 ?_
      refine wa_sipush 265 sp_265 E d_X6_readLaw_36 ?_
      refine wa_icmp_ne E d_X6_readLaw_39 (fun c_3 => ?_) (fun c_3 => ?_)
      · replace h := kf_iff c_3 h
        refine wa_sub [0, 1] rfl ?_
        exact b_X6_readLaw_131 E hty v0 v1 k_v0 k_v1 σ h
      · replace h := kf_ift c_3 h
        refine wa_iload_n 2 rfl E d_X6_readLaw_42 ?_
        refine wa_iconst 4 ic_4 E d_X6_readLaw_43 ?_
        refine wa_icmp_ne E d_X6_readLaw_44 (fun c_4 => ?_) (fun c_4 => ?_)
        · replace h := kf_iff c_4 h
          exact b_X6_readLaw_52 E hty hrec20 v0 v1 v2 k_v0 k_v1 σ h
        · replace h := kf_ift c_4 h
          refine wa_aload_n 0 rfl E d_X6_readLaw_47 ?_
          refine wa_iconst 2 ic_2 E d_X6_readLaw_48 ?_
          obtain ⟨q_5, hq_5, h⟩ := kf_bd h
          refine wa_callV (st2 := []) (c_X6_fail hty v0 2 k_v0 σ hq_5) mv_X6_fail ml_X6_97 k_v0 rfl (Nat.le_of_ble_eq_true rfl) rfl (Nat.le_of_ble_eq_true rfl) E d_X6_readLaw_49 rfl ?_
          exact b_X6_readLaw_52 E hty hrec20 v0 v1 v2 k_v0 k_v1 q_5 h
theorem b_X6_readLaw_20 {X : kf_X} {G : kf_G} {q : kf_St} (E : kf_ok X G cX6_readLaw RX6 4 none (38)) (hty : kf_wt G) : ∀ (N : Nat) (v0 : Nat) (v1 : Nat) (v2 : Int32) (k_v0 : kf_kd G v0 = 7) (k_v1 : kf_kd G v1 = 3) (σ : kf_St) (_ : f_X6_readLaw_20 N v0 v1 v2 σ = some q), kf_WA X G 4 (kf_Q X G none q) 20 [(0, .ref (kf_ad G v0)), (1, .ref (kf_ad G v1)), (2, .int v2)] [] σ
  | 0, _, _, _, _, _, _, h => by cases h
  | N + 1, v0, v1, v2, k_v0, k_v1, σ, h => b_X6_readLaw_20_s _ E hty (b_X6_readLaw_20 E hty N) v0 v1 v2 k_v0 k_v1 σ h
def f_X6_readLaw (v0 : Nat) (v1 : Nat) (σ : kf_St) : Option kf_St :=
  (f_X6_take v0 (σ.1 v0 5) σ).bind fun q_1 =>
  (f_X6_take v0 61 q_1).bind fun q_2 =>
  (f_X2_clear v1 q_2).bind fun q_3 =>
  f_X6_readLaw_20 kf_F v0 v1 0 q_3
set_option maxRecDepth 100000 in
set_option maxHeartbeats 4000000 in
theorem c_X6_readLaw {G : kf_G} (hty : kf_wt G) (v0 : Nat) (v1 : Nat) (k_v0 : kf_kd G v0 = 7) (k_v1 : kf_kd G v1 = 3) (σ : kf_St) {q : kf_St} (h : f_X6_readLaw v0 v1 σ = some q) : kf_Ct (38) yX6_readLaw cX6_readLaw 4 none G [.ref (kf_ad G v0), .ref (kf_ad G v1)] σ none q := by
  refine kf_Ct.of hty.1 (lv := [(0, .ref (kf_ad G v0)), (1, .ref (kf_ad G v1))]) (by decide +kernel) rfl (Nat.le_of_ble_eq_true rfl) (fun X E => ?_)
  unfold f_X6_readLaw at h
  refine wa_aload_n 0 rfl E d_X6_readLaw_0 ?_
  refine wa_aload_n 0 rfl E d_X6_readLaw_1 ?_
  refine wa_getI fl_X6_40 k_v0 rfl E d_X6_readLaw_2 ?_
  obtain ⟨q_1, hq_1, h⟩ := kf_bd h
  refine wa_callV (st2 := []) (c_X6_take hty v0 (σ.1 v0 5) k_v0 σ hq_1) mv_X6_take ml_X6_101 k_v0 rfl (Nat.le_of_ble_eq_true rfl) rfl (Nat.le_of_ble_eq_true rfl) E d_X6_readLaw_5 rfl ?_
  refine wa_aload_n 0 rfl E d_X6_readLaw_8 ?_
  refine wa_bipush 61 bp_61 E d_X6_readLaw_9 ?_
  obtain ⟨q_2, hq_2, h⟩ := kf_bd h
  refine wa_callV (st2 := []) (c_X6_take hty v0 61 k_v0 q_1 hq_2) mv_X6_take ml_X6_101 k_v0 rfl (Nat.le_of_ble_eq_true rfl) rfl (Nat.le_of_ble_eq_true rfl) E d_X6_readLaw_11 rfl ?_
  refine wa_aload_n 1 rfl E d_X6_readLaw_14 ?_
  obtain ⟨q_3, hq_3, h⟩ := kf_bd h
  refine wa_callV (st2 := []) (c_X2_clear hty v1 k_v1 q_2 hq_3) mv_X2_clear ml_X6_165 k_v1 rfl (Nat.le_of_ble_eq_true rfl) rfl (Nat.le_of_ble_eq_true rfl) E d_X6_readLaw_15 rfl ?_
  refine wa_iconst 0 ic_0 E d_X6_readLaw_18 ?_
  refine wa_istore_n (lv' := [(2, .int 0), (0, .ref (kf_ad G v0)), (1, .ref (kf_ad G v1))]) rfl (by decide) rfl E d_X6_readLaw_19 ?_
  refine wa_sub [1, 2, 0] rfl ?_
  exact b_X6_readLaw_20 E hty kf_F v0 v1 0 k_v0 k_v1 q_3 h
