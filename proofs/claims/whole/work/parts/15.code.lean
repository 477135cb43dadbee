/-! X11_year -/
theorem d_X11_year_0 : kf_dq cX11_year 0 1 1 (.aload_n 0) := ⟨by decide +kernel, rfl⟩
theorem d_X11_year_1 : kf_dq cX11_year 1 4 3 (.getfield 19) := ⟨by decide +kernel, rfl⟩
theorem d_X11_year_4 : kf_dq cX11_year 4 5 1 (.iload_n 1) := ⟨by decide +kernel, rfl⟩
theorem d_X11_year_5 : kf_dq cX11_year 5 6 1 (.iload_n 2) := ⟨by decide +kernel, rfl⟩
theorem d_X11_year_6 : kf_dq cX11_year 6 9 3 (.invokevirtual 187) := ⟨by decide +kernel, rfl⟩
theorem d_X11_year_9 : kf_dj cX11_year 9 12 35 (.ifCond .eq) := ⟨26, by decide +kernel, rfl, by decide⟩
theorem d_X11_year_12 : kf_dq cX11_year 12 13 1 (.iload_n 3) := ⟨by decide +kernel, rfl⟩
theorem d_X11_year_13 : kf_dj cX11_year 13 16 35 (.ifCond .lt) := ⟨22, by decide +kernel, rfl, by decide⟩
theorem d_X11_year_16 : kf_dq cX11_year 16 17 1 (.iload_n 3) := ⟨by decide +kernel, rfl⟩
theorem d_X11_year_17 : kf_dq cX11_year 17 19 2 (.bipush 60) := ⟨by decide +kernel, rfl⟩
theorem d_X11_year_19 : kf_dj cX11_year 19 22 35 (.if_icmp .gt) := ⟨16, by decide +kernel, rfl, by decide⟩
theorem d_X11_year_22 : kf_dq cX11_year 22 24 2 (.iload 4) := ⟨by decide +kernel, rfl⟩
theorem d_X11_year_24 : kf_dq cX11_year 24 25 1 (.iconst 1) := ⟨by decide +kernel, rfl⟩
theorem d_X11_year_25 : kf_dj cX11_year 25 28 35 (.if_icmp .lt) := ⟨10, by decide +kernel, rfl, by decide⟩
theorem d_X11_year_28 : kf_dq cX11_year 28 30 2 (.iload 4) := ⟨by decide +kernel, rfl⟩
theorem d_X11_year_30 : kf_dq cX11_year 30 32 2 (.bipush 20) := ⟨by decide +kernel, rfl⟩
theorem d_X11_year_32 : kf_dj cX11_year 32 35 37 (.if_icmp .le) := ⟨5, by decide +kernel, rfl, by decide⟩
theorem d_X11_year_35 : kf_dq cX11_year 35 36 1 (.iconst (-1)) := ⟨by decide +kernel, rfl⟩
theorem d_X11_year_36 : kf_dq cX11_year 36 37 1 (.ireturn) := ⟨by decide +kernel, rfl⟩
theorem d_X11_year_37 : kf_dq cX11_year 37 38 1 (.iconst 0) := ⟨by decide +kernel, rfl⟩
theorem d_X11_year_38 : kf_dq cX11_year 38 40 2 (.istore 5) := ⟨by decide +kernel, rfl⟩
theorem d_X11_year_40 : kf_dq cX11_year 40 41 1 (.iconst 0) := ⟨by decide +kernel, rfl⟩
theorem d_X11_year_41 : kf_dq cX11_year 41 43 2 (.istore 6) := ⟨by decide +kernel, rfl⟩
theorem d_X11_year_43 : kf_dq cX11_year 43 45 2 (.iload 6) := ⟨by decide +kernel, rfl⟩
theorem d_X11_year_45 : kf_dq cX11_year 45 47 2 (.iload 4) := ⟨by decide +kernel, rfl⟩
theorem d_X11_year_47 : kf_dj cX11_year 47 50 103 (.if_icmp .ge) := ⟨56, by decide +kernel, rfl, by decide⟩
theorem d_X11_year_50 : kf_dq cX11_year 50 51 1 (.aload_n 0) := ⟨by decide +kernel, rfl⟩
theorem d_X11_year_51 : kf_dq cX11_year 51 54 3 (.getfield 63) := ⟨by decide +kernel, rfl⟩
theorem d_X11_year_54 : kf_dq cX11_year 54 55 1 (.iload_n 1) := ⟨by decide +kernel, rfl⟩
theorem d_X11_year_55 : kf_dq cX11_year 55 56 1 (.iload_n 3) := ⟨by decide +kernel, rfl⟩
theorem d_X11_year_56 : kf_dq cX11_year 56 57 1 (.aload_n 0) := ⟨by decide +kernel, rfl⟩
theorem d_X11_year_57 : kf_dq cX11_year 57 60 3 (.getfield 38) := ⟨by decide +kernel, rfl⟩
theorem d_X11_year_60 : kf_dq cX11_year 60 63 3 (.getfield 177) := ⟨by decide +kernel, rfl⟩
theorem d_X11_year_63 : kf_dq cX11_year 63 64 1 (.aload_n 0) := ⟨by decide +kernel, rfl⟩
theorem d_X11_year_64 : kf_dq cX11_year 64 67 3 (.getfield 19) := ⟨by decide +kernel, rfl⟩
theorem d_X11_year_67 : kf_dq cX11_year 67 70 3 (.getfield 298) := ⟨by decide +kernel, rfl⟩
theorem d_X11_year_70 : kf_dq cX11_year 70 72 2 (.iload 6) := ⟨by decide +kernel, rfl⟩
theorem d_X11_year_72 : kf_dq cX11_year 72 73 1 (.iadd) := ⟨by decide +kernel, rfl⟩
theorem d_X11_year_73 : kf_dq cX11_year 73 76 3 (.invokevirtual 248) := ⟨by decide +kernel, rfl⟩
theorem d_X11_year_76 : kf_dq cX11_year 76 78 2 (.astore 7) := ⟨by decide +kernel, rfl⟩
theorem d_X11_year_78 : kf_dq cX11_year 78 79 1 (.aload_n 0) := ⟨by decide +kernel, rfl⟩
theorem d_X11_year_79 : kf_dq cX11_year 79 82 3 (.getfield 19) := ⟨by decide +kernel, rfl⟩
theorem d_X11_year_82 : kf_dq cX11_year 82 84 2 (.aload 7) := ⟨by decide +kernel, rfl⟩
theorem d_X11_year_84 : kf_dq cX11_year 84 87 3 (.getfield 123) := ⟨by decide +kernel, rfl⟩
theorem d_X11_year_87 : kf_dq cX11_year 87 90 3 (.invokevirtual 141) := ⟨by decide +kernel, rfl⟩
theorem d_X11_year_90 : kf_dq cX11_year 90 91 1 (.iload_n 2) := ⟨by decide +kernel, rfl⟩
theorem d_X11_year_91 : kf_dj cX11_year 91 94 97 (.if_icmp .ne) := ⟨6, by decide +kernel, rfl, by decide⟩
theorem d_X11_year_94 : kf_dq cX11_year 94 97 3 (.iinc 5 1) := ⟨by decide +kernel, rfl⟩
theorem d_X11_year_97 : kf_dq cX11_year 97 100 3 (.iinc 6 1) := ⟨by decide +kernel, rfl⟩
theorem d_X11_year_100 : kf_dj cX11_year 100 103 43 .goto := ⟨(-57), by decide +kernel, rfl, by decide⟩
theorem d_X11_year_103 : kf_dq cX11_year 103 105 2 (.iload 5) := ⟨by decide +kernel, rfl⟩
theorem d_X11_year_105 : kf_dq cX11_year 105 106 1 (.ireturn) := ⟨by decide +kernel, rfl⟩
def f_X11_year_97 (rec43 : Nat → Int32 → Int32 → Int32 → Int32 → Int32 → Int32 → kf_St → Option (Int32 × kf_St)) (v0 : Nat) (v1 : Int32) (v2 : Int32) (v3 : Int32) (v4 : Int32) (v5 : Int32) (v6 : Int32) (σ : kf_St) : Option (Int32 × kf_St) :=
  kf_lt (v6 + 1) fun v6_1 =>
  rec43 v0 v1 v2 v3 v4 v5 v6_1 σ
set_option maxRecDepth 100000 in
set_option maxHeartbeats 4000000 in
theorem b_X11_year_97 {X : kf_X} {G : kf_G} {rec43 : Nat → Int32 → Int32 → Int32 → Int32 → Int32 → Int32 → kf_St → Option (Int32 × kf_St)} {q : (Int32 × kf_St)} (E : kf_ok X G cX11_year RX11 8 (some .int) (8)) (hty : kf_wt G) (hrec43 : ∀ (v0 : Nat) (v1 : Int32) (v2 : Int32) (v3 : Int32) (v4 : Int32) (v5 : Int32) (v6 : Int32) (k_v0 : kf_kd G v0 = 12) (σ : kf_St), rec43 v0 v1 v2 v3 v4 v5 v6 σ = some q → kf_WA X G 8 (kf_Q X G (some (.int q.1)) q.2) 43 [(0, .ref (kf_ad G v0)), (1, .int v1), (2, .int v2), (3, .int v3), (4, .int v4), (5, .int v5), (6, .int v6)] [] σ) (v0 : Nat) (v1 : Int32) (v2 : Int32) (v3 : Int32) (v4 : Int32) (v5 : Int32) (v6 : Int32) (k_v0 : kf_kd G v0 = 12) (σ : kf_St) (h : f_X11_year_97 rec43 v0 v1 v2 v3 v4 v5 v6 σ = some q) : kf_WA X G 8 (kf_Q X G (some (.int q.1)) q.2) 97 [(0, .ref (kf_ad G v0)), (1, .int v1), (2, .int v2), (3, .int v3), (4, .int v4), (5, .int v5), (6, .int v6)] [] σ := by
  unfold f_X11_year_97 at h
  obtain ⟨v6_1, ev6_1, h⟩ := kf_lte h
  refine wa_iinc (lv' := [(6, .int v6_1), (0, .ref (kf_ad G v0)), (1, .int v1), (2, .int v2), (3, .int v3), (4, .int v4), (5, .int v5)]) v6_1 6 rfl (kf_inc ic_1 ev6_1) (by decide) rfl E d_X11_year_97 ?_
  refine wa_goto E d_X11_year_100 ?_
  refine wa_sub [1, 2, 3, 4, 5, 6, 0] rfl ?_
  exact hrec43 v0 v1 v2 v3 v4 v5 v6_1 k_v0 σ h
def f_X11_year_43_s (rec43 : Nat → Int32 → Int32 → Int32 → Int32 → Int32 → Int32 → kf_St → Option (Int32 × kf_St)) (v0 : Nat) (v1 : Int32) (v2 : Int32) (v3 : Int32) (v4 : Int32) (v5 : Int32) (v6 : Int32) (σ : kf_St) : Option (Int32 × kf_St) :=
  if v4 ≤ v6 then
    some (v5, σ)
  else
    (f_X0_after (kf_rf v0 7) v1 v3 (σ.1 (kf_rf v0 4) 2) ((σ.1 (kf_rf v0 1) 5) + v6) σ).bind fun q_2 =>
    (f_X10_knownBy (kf_rf v0 1) (kf_rf (kf_rf (kf_rf v0 7) 3) 0) q_2).bind fun q_3 =>
    if q_3.1 = v2 then
      kf_lt (v5 + 1) fun v5_5 =>
      f_X11_year_97 rec43 v0 v1 v2 v3 v4 v5_5 v6 q_3.2
    else
      f_X11_year_97 rec43 v0 v1 v2 v3 v4 v5 v6 q_3.2
def f_X11_year_43 : Nat → Nat → Int32 → Int32 → Int32 → Int32 → Int32 → Int32 → kf_St → Option (Int32 × kf_St)
  | 0, _, _, _, _, _, _, _, _ => none
  | n + 1, v0, v1, v2, v3, v4, v5, v6, σ => f_X11_year_43_s (f_X11_year_43 n) v0 v1 v2 v3 v4 v5 v6 σ
set_option maxRecDepth 100000 in
set_option maxHeartbeats 4000000 in
theorem b_X11_year_43_s {X : kf_X} {G : kf_G} (rec43 : Nat → Int32 → Int32 → Int32 → Int32 → Int32 → Int32 → kf_St → Option (Int32 × kf_St)) {q : (Int32 × kf_St)} (E : kf_ok X G cX11_year RX11 8 (some .int) (8)) (hty : kf_wt G) (hrec43 : ∀ (v0 : Nat) (v1 : Int32) (v2 : Int32) (v3 : Int32) (v4 : Int32) (v5 : Int32) (v6 : Int32) (k_v0 : kf_kd G v0 = 12) (σ : kf_St), rec43 v0 v1 v2 v3 v4 v5 v6 σ = some q → kf_WA X G 8 (kf_Q X G (some (.int q.1)) q.2) 43 [(0, .ref (kf_ad G v0)), (1, .int v1), (2, .int v2), (3, .int v3), (4, .int v4), (5, .int v5), (6, .int v6)] [] σ) (v0 : Nat) (v1 : Int32) (v2 : Int32) (v3 : Int32) (v4 : Int32) (v5 : Int32) (v6 : Int32) (k_v0 : kf_kd G v0 = 12) (σ : kf_St) (h : f_X11_year_43_s rec43 v0 v1 v2 v3 v4 v5 v6 σ = some q) : kf_WA X G 8 (kf_Q X G (some (.int q.1)) q.2) 43 [(0, .ref (kf_ad G v0)), (1, .int v1), (2, .int v2), (3, .int v3), (4, .int v4), (5, .int v5), (6, .int v6)] [] σ := by
  unfold f_X11_year_43_s at h
  refine wa_iload 6 rfl E d_X11_year_43 ?_
  refine wa_iload 4 rfl E d_X11_year_45 ?_
  refine wa_icmp_ge E d_X11_year_47 (fun c_1 => ?_) (fun c_1 => ?_)
  · replace h := kf_ift c_1 h
    refine wa_iload 5 rfl E d_X11_year_103 ?_
    cases h
    exact wa_iret E d_X11_year_105
  · replace h := kf_iff c_1 h
    refine wa_aload_n 0 rfl E d_X11_year_50 ?_
    refine wa_getR fl_X11_63 k_v0 rfl E d_X11_year_51 ?_
    refine wa_iload_n 1 rfl E d_X11_year_54 ?_
    refine wa_iload_n 3 rfl E d_X11_year_55 ?_
    refine wa_aload_n 0 rfl E d_X11_year_56 ?_
    refine wa_getR fl_X11_38 k_v0 rfl E d_X11_year_57 ?_
    refine wa_getI fl_X11_177 (kf_wtf hty 4 7 k_v0 (by decide) rfl) rfl E d_X11_year_60 ?_
    refine wa_aload_n 0 rfl E d_X11_year_63 ?_
    refine wa_getR fl_X11_19 k_v0 rfl E d_X11_year_64 ?_
    refine wa_getI fl_X11_298 (kf_wtf hty 1 10 k_v0 (by decide) rfl) rfl E d_X11_year_67 ?_
    refine wa_iload 6 rfl E d_X11_year_70 ?_
    refine wa_iadd E d_X11_year_72 ?_
    obtain ⟨q_2, hq_2, h⟩ := kf_bd h
    refine wa_callV (st2 := [.ref (kf_ad G (kf_rf (kf_rf v0 7) 3))]) (c_X0_after hty (kf_rf v0 7) v1 v3 (σ.1 (kf_rf v0 4) 2) ((σ.1 (kf_rf v0 1) 5) + v6) (kf_wtf hty 7 0 k_v0 (by decide) rfl) σ hq_2) mv_X0_after ml_X11_248 (kf_wtf hty 7 0 k_v0 (by decide) rfl) rfl (Nat.le_of_ble_eq_true rfl) rfl (Nat.le_of_ble_eq_true rfl) E d_X11_year_73 rfl ?_
    refine wa_astore (lv' := [(7, .ref (kf_ad G (kf_rf (kf_rf v0 7) 3))), (0, .ref (kf_ad G v0)), (1, .int v1), (2, .int v2), (3, .int v3), (4, .int v4), (5, .int v5), (6, .int v6)]) (by decide) rfl E d_X11_year_76 ?_
    refine wa_aload_n 1 rfl E d_X11_year_78 ?_
    refine wa_getR fl_X11_19 k_v0 rfl E d_X11_year_79 ?_
    refine wa_aload 0 rfl E d_X11_year_82 ?_
    refine wa_getR fl_X11_123 (kf_wtf hty 3 1 (kf_wtf hty 7 0 k_v0 (by decide) rfl) (by decide) rfl) rfl E d_X11_year_84 ?_
    obtain ⟨q_3, hq_3, h⟩ := kf_bd h
    refine wa_callV (st2 := [.int q_3.1]) (c_X10_knownBy hty (kf_rf v0 1) (kf_rf (kf_rf (kf_rf v0 7) 3) 0) (kf_wtf hty 1 10 k_v0 (by decide) rfl) (kf_wtf hty 0 49 (kf_wtf hty 3 1 (kf_wtf hty 7 0 k_v0 (by decide) rfl) (by decide) rfl) (by decide) rfl) q_2 hq_3) mv_X10_knownBy ml_X11_141 (kf_wtf hty 1 10 k_v0 (by decide) rfl) rfl (Nat.le_of_ble_eq_true rfl) rfl (Nat.le_of_ble_eq_true rfl) E d_X11_year_87 rfl ?_
    refine wa_iload_n 3 rfl E d_X11_year_90 ?_
    refine wa_icmp_ne E d_X11_year_91 (fun c_4 => ?_) (fun c_4 => ?_)
    · replace h := kf_iff c_4 h
      refine wa_sub [1, 2, 3, 4, 5, 6, 7] rfl ?_
      exact b_X11_year_97 E hty hrec43 v0 v1 v2 v3 v4 v5 v6 k_v0 q_3.2 h
    · replace h := kf_ift c_4 h
      obtain ⟨v5_5, ev5_5, h⟩ := kf_lte h
      refine wa_iinc (lv' := [(5, .int v5_5), (7, .ref (kf_ad G (kf_rf (kf_rf v0 7) 3))), (0, .ref (kf_ad G v0)), (1, .int v1), (2, .int v2), (3, .int v3), (4, .int v4), (6, .int v6)]) v5_5 6 rfl (kf_inc ic_1 ev5_5) (by decide) rfl E d_X11_year_94 ?_
      refine wa_sub [2, 3, 4, 5, 6, 0, 7] rfl ?_
      exact b_X11_year_97 E hty hrec43 v0 v1 v2 v3 v4 v5_5 v6 k_v0 q_3.2 h
theorem b_X11_year_43 {X : kf_X} {G : kf_G} {q : (Int32 × kf_St)} (E : kf_ok X G cX11_year RX11 8 (some .int) (8)) (hty : kf_wt G) : ∀ (N : Nat) (v0 : Nat) (v1 : Int32) (v2 : Int32) (v3 : Int32) (v4 : Int32) (v5 : Int32) (v6 : Int32) (k_v0 : kf_kd G v0 = 12) (σ : kf_St) (_ : f_X11_year_43 N v0 v1 v2 v3 v4 v5 v6 σ = some q), kf_WA X G 8 (kf_Q X G (some (.int q.1)) q.2) 43 [(0, .ref (kf_ad G v0)), (1, .int v1), (2, .int v2), (3, .int v3), (4, .int v4), (5, .int v5), (6, .int v6)] [] σ
  | 0, _, _, _, _, _, _, _, _, _, h => by cases h
  | N + 1, v0, v1, v2, v3, v4, v5, v6, k_v0, σ, h => b_X11_year_43_s _ E hty (b_X11_year_43 E hty N) v0 v1 v2 v3 v4 v5 v6 k_v0 σ h
def f_X11_year (v0 : Nat) (v1 : Int32) (v2 : Int32) (v3 : Int32) (v4 : Int32) (σ : kf_St) : Option (Int32 × kf_St) :=
  (f_X10_hasBoth (kf_rf v0 1) v1 v2 σ).bind fun q_1 =>
  if q_1.1 = 0 then
    some ((-1), q_1.2)
  else
    if v3 < 0 then
      some ((-1), q_1.2)
    else
      if 60 < v3 then
        some ((-1), q_1.2)
      else
        if v4 < 1 then
          some ((-1), q_1.2)
        else
          if v4 ≤ 20 then
            f_X11_year_43 kf_F v0 v1 v2 v3 v4 0 0 q_1.2
          else
            some ((-1), q_1.2)
set_option maxRecDepth 100000 in
set_option maxHeartbeats 4000000 in
theorem c_X11_year {G : kf_G} (hty : kf_wt G) (v0 : Nat) (v1 : Int32) (v2 : Int32) (v3 : Int32) (v4 : Int32) (k_v0 : kf_kd G v0 = 12) (σ : kf_St) {q : (Int32 × kf_St)} (h : f_X11_year v0 v1 v2 v3 v4 σ = some q) : kf_Ct (8) yX11_year cX11_year 8 (some .int) G [.ref (kf_ad G v0), .int v1, .int v2, .int v3, .int v4] σ (some (.int q.1)) q.2 := by
  refine kf_Ct.of hty.1 (lv := [(0, .ref (kf_ad G v0)), (1, .int v1), (2, .int v2), (3, .int v3), (4, .int v4)]) (by decide +kernel) rfl (Nat.le_of_ble_eq_true rfl) (fun X E => ?_)
  unfold f_X11_year at h
  refine wa_aload_n 0 rfl E d_X11_year_0 ?_
  refine wa_getR fl_X11_19 k_v0 rfl E d_X11_year_1 ?_
  refine wa_iload_n 1 rfl E d_X11_year_4 ?_
  refine wa_iload_n 2 rfl E d_X11_year_5 ?_
  obtain ⟨q_1, hq_1, h⟩ := kf_bd h
  refine wa_callV (st2 := [.int q_1.1]) (c_X10_hasBoth hty (kf_rf v0 1) v1 v2 (kf_wtf hty 1 10 k_v0 (by decide) rfl) σ hq_1) mv_X10_hasBoth ml_X11_187 (kf_wtf hty 1 10 k_v0 (by decide) rfl) rfl (Nat.le_of_ble_eq_true rfl) rfl (Nat.le_of_ble_eq_true rfl) E d_X11_year_6 rfl ?_
  refine wa_if_eq E d_X11_year_9 (fun c_2 => ?_) (fun c_2 => ?_)
  · replace h := kf_ift c_2 h
    refine wa_iconst (-1) ic_m1 E d_X11_year_35 ?_
    cases h
    exact wa_iret E d_X11_year_36
  · replace h := kf_iff c_2 h
    refine wa_iload_n 3 rfl E d_X11_year_12 ?_
    refine wa_if_lt E d_X11_year_13 (fun c_3 => ?_) (fun c_3 => ?_)
    · replace h := kf_ift c_3 h
      refine wa_iconst (-1) ic_m1 E d_X11_year_35 ?_
      cases h
      exact wa_iret E d_X11_year_36
    · replace h := kf_iff c_3 h
      refine wa_iload_n 3 rfl E d_X11_year_16 ?_
      refine wa_bipush 60 bp_60 E d_X11_year_17 ?_
      refine wa_icmp_gt E d_X11_year_19 (fun c_4 => ?_) (fun c_4 => ?_)
      · replace h := kf_ift c_4 h
        refine wa_iconst (-1) ic_m1 E d_X11_year_35 ?_
        cases h
        exact wa_iret E d_X11_year_36
      · replace h := kf_iff c_4 h
        refine wa_iload 4 rfl E d_X11_year_22 ?_
        refine wa_iconst 1 ic_1 E d_X11_year_24 ?_
        refine wa_icmp_lt E d_X11_year_25 (fun c_5 => ?_) (fun c_5 => ?_)
        · replace h := kf_ift c_5 h
          refine wa_iconst (-1) ic_m1 E d_X11_year_35 ?_
          cases h
          exact wa_iret E d_X11_year_36
        · replace h := kf_iff c_5 h
          refine wa_iload 4 rfl E d_X11_year_28 ?_
          refine wa_bipush 20 bp_20 E d_X11_year_30 ?_
          refine wa_icmp_le E d_X11_year_32 (fun c_6 => ?_) (fun c_6 => ?_)
          · replace h := kf_ift c_6 h
            refine wa_iconst 0 ic_0 E d_X11_year_37 ?_
            refine wa_istore (lv' := [(5, .int 0), (0, .ref (kf_ad G v0)), (1, .int v1), (2, .int v2), (3, .int v3), (4, .int v4)]) (by decide) rfl E d_X11_year_38 ?_
            refine wa_iconst 0 ic_0 E d_X11_year_40 ?_
            refine wa_istore (lv' := [(6, .int 0), (5, .int 0), (0, .ref (kf_ad G v0)), (1, .int v1), (2, .int v2), (3, .int v3), (4, .int v4)]) (by decide) rfl E d_X11_year_41 ?_
            refine wa_sub [2, 3, 4, 5, 6, 1, 0] rfl ?_
            exact b_X11_year_43 E hty kf_F v0 v1 v2 v3 v4 0 0 k_v0 q_1.2 h
          · replace h := kf_iff c_6 h
            refine wa_iconst (-1) ic_m1 E d_X11_year_35 ?_
            cases h
            exact wa_iret E d_X11_year_36
/-! X11_tell -/
theorem d_X11_tell_0 : kf_dq cX11_tell 0 1 1 (.aload_n 0) := ⟨by decide +kernel, rfl⟩
theorem d_X11_tell_1 : kf_dq cX11_tell 1 4 3 (.getfield 19) := ⟨by decide +kernel, rfl⟩
theorem d_X11_tell_4 : kf_dq cX11_tell 4 5 1 (.iload_n 1) := ⟨by decide +kernel, rfl⟩
theorem d_X11_tell_5 : kf_dq cX11_tell 5 8 3 (.invokevirtual 116) := ⟨by decide +kernel, rfl⟩
theorem d_X11_tell_8 : kf_dj cX11_tell 8 11 28 (.ifCond .eq) := ⟨20, by decide +kernel, rfl, by decide⟩
theorem d_X11_tell_11 : kf_dq cX11_tell 11 12 1 (.iload_n 2) := ⟨by decide +kernel, rfl⟩
theorem d_X11_tell_12 : kf_dq cX11_tell 12 15 3 (.invokestatic 218) := ⟨by decide +kernel, rfl⟩
theorem d_X11_tell_15 : kf_dj cX11_tell 15 18 28 (.ifCond .eq) := ⟨13, by decide +kernel, rfl, by decide⟩
theorem d_X11_tell_18 : kf_dq cX11_tell 18 19 1 (.iload_n 3) := ⟨by decide +kernel, rfl⟩
theorem d_X11_tell_19 : kf_dq cX11_tell 19 20 1 (.iconst (-1)) := ⟨by decide +kernel, rfl⟩
theorem d_X11_tell_20 : kf_dj cX11_tell 20 23 28 (.if_icmp .lt) := ⟨8, by decide +kernel, rfl, by decide⟩
theorem d_X11_tell_23 : kf_dq cX11_tell 23 24 1 (.iload_n 3) := ⟨by decide +kernel, rfl⟩
theorem d_X11_tell_24 : kf_dq cX11_tell 24 25 1 (.iconst 1) := ⟨by decide +kernel, rfl⟩
theorem d_X11_tell_25 : kf_dj cX11_tell 25 28 30 (.if_icmp .le) := ⟨5, by decide +kernel, rfl, by decide⟩
theorem d_X11_tell_28 : kf_dq cX11_tell 28 29 1 (.iconst (-1)) := ⟨by decide +kernel, rfl⟩
theorem d_X11_tell_29 : kf_dq cX11_tell 29 30 1 (.ireturn) := ⟨by decide +kernel, rfl⟩
theorem d_X11_tell_30 : kf_dq cX11_tell 30 31 1 (.aload_n 0) := ⟨by decide +kernel, rfl⟩
theorem d_X11_tell_31 : kf_dq cX11_tell 31 34 3 (.getfield 79) := ⟨by decide +kernel, rfl⟩
theorem d_X11_tell_34 : kf_dq cX11_tell 34 35 1 (.iload_n 1) := ⟨by decide +kernel, rfl⟩
theorem d_X11_tell_35 : kf_dq cX11_tell 35 36 1 (.iload_n 2) := ⟨by decide +kernel, rfl⟩
theorem d_X11_tell_36 : kf_dq cX11_tell 36 37 1 (.iload_n 3) := ⟨by decide +kernel, rfl⟩
theorem d_X11_tell_37 : kf_dq cX11_tell 37 40 3 (.invokevirtual 304) := ⟨by decide +kernel, rfl⟩
theorem d_X11_tell_40 : kf_dq cX11_tell 40 41 1 (.ireturn) := ⟨by decide +kernel, rfl⟩
def f_X11_tell (v0 : Nat) (v1 : Int32) (v2 : Int32) (v3 : Int32) (σ : kf_St) : Option (Int32 × kf_St) :=
  (f_X10_hasDoor (kf_rf v0 1) v1 σ).bind fun q_1 =>
  if q_1.1 = 0 then
    some ((-1), q_1.2)
  else
    (f_X11_isPart v2 q_1.2).bind fun q_3 =>
    if q_3.1 = 0 then
      some ((-1), q_3.2)
    else
      if v3 < (-1) then
        some ((-1), q_3.2)
      else
        if v3 ≤ 1 then
          (f_X9_note (kf_rf v0 9) v1 v2 v3 q_3.2).bind fun q_7 =>
          some (q_7.1, q_7.2)
        else
          some ((-1), q_3.2)
set_option maxRecDepth 100000 in
set_option maxHeartbeats 4000000 in
theorem c_X11_tell {G : kf_G} (hty : kf_wt G) (v0 : Nat) (v1 : Int32) (v2 : Int32) (v3 : Int32) (k_v0 : kf_kd G v0 = 12) (σ : kf_St) {q : (Int32 × kf_St)} (h : f_X11_tell v0 v1 v2 v3 σ = some q) : kf_Ct (2) yX11_tell cX11_tell 4 (some .int) G [.ref (kf_ad G v0), .int v1, .int v2, .int v3] σ (some (.int q.1)) q.2 := by
  refine kf_Ct.of hty.1 (lv := [(0, .ref (kf_ad G v0)), (1, .int v1), (2, .int v2), (3, .int v3)]) (by decide +kernel) rfl (Nat.le_of_ble_eq_true rfl) (fun X E => ?_)
  unfold f_X11_tell at h
  refine wa_aload_n 0 rfl E d_X11_tell_0 ?_
  refine wa_getR fl_X11_19 k_v0 rfl E d_X11_tell_1 ?_
  refine wa_iload_n 1 rfl E d_X11_tell_4 ?_
  obtain ⟨q_1, hq_1, h⟩ := kf_bd h
  refine wa_callV (st2 := [.int q_1.1]) (c_X10_hasDoor hty (kf_rf v0 1) v1 (kf_wtf hty 1 10 k_v0 (by decide) rfl) σ hq_1) mv_X10_hasDoor ml_X11_116 (kf_wtf hty 1 10 k_v0 (by decide) rfl) rfl (Nat.le_of_ble_eq_true rfl) rfl (Nat.le_of_ble_eq_true rfl) E d_X11_tell_5 rfl ?_
  refine wa_if_eq E d_X11_tell_8 (fun c_2 => ?_) (fun c_2 => ?_)
  · replace h := kf_ift c_2 h
    refine wa_iconst (-1) ic_m1 E d_X11_tell_28 ?_
    cases h
    exact wa_iret E d_X11_tell_29
  · replace h := kf_iff c_2 h
    refine wa_iload_n 2 rfl E d_X11_tell_11 ?_
    obtain ⟨q_3, hq_3, h⟩ := kf_bd h
    refine wa_callS (st2 := [.int q_3.1]) (c_X11_isPart hty v2 q_1.2 hq_3) mt_X11_isPart ml_X11_218 rfl (Nat.le_of_ble_eq_true rfl) rfl (Nat.le_of_ble_eq_true rfl) E d_X11_tell_12 rfl ?_
    refine wa_if_eq E d_X11_tell_15 (fun c_4 => ?_) (fun c_4 => ?_)
    · replace h := kf_ift c_4 h
      refine wa_iconst (-1) ic_m1 E d_X11_tell_28 ?_
      cases h
      exact wa_iret E d_X11_tell_29
    · replace h := kf_iff c_4 h
      refine wa_iload_n 3 rfl E d_X11_tell_18 ?_
      refine wa_iconst (-1) ic_m1 E d_X11_tell_19 ?_
      refine wa_icmp_lt E d_X11_tell_20 (fun c_5 => ?_) (fun c_5 => ?_)
      · replace h := kf_ift c_5 h
        refine wa_iconst (-1) ic_m1 E d_X11_tell_28 ?_
        cases h
        exact wa_iret E d_X11_tell_29
      · replace h := kf_iff c_5 h
        refine wa_iload_n 3 rfl E d_X11_tell_23 ?_
        refine wa_iconst 1 ic_1 E d_X11_tell_24 ?_
        refine wa_icmp_le E d_X11_tell_25 (fun c_6 => ?_) (fun c_6 => ?_)
        · replace h := kf_ift c_6 h
          refine wa_aload_n 0 rfl E d_X11_tell_30 ?_
          refine wa_getR fl_X11_79 k_v0 rfl E d_X11_tell_31 ?_
          refine wa_iload_n 1 rfl E d_X11_tell_34 ?_
          refine wa_iload_n 2 rfl E d_X11_tell_35 ?_
          refine wa_iload_n 3 rfl E d_X11_tell_36 ?_
          obtain ⟨q_7, hq_7, h⟩ := kf_bd h
          refine wa_callV (st2 := [.int q_7.1]) (c_X9_note hty (kf_rf v0 9) v1 v2 v3 (kf_wtf hty 9 9 k_v0 (by decide) rfl) q_3.2 hq_7) mv_X9_note ml_X11_304 (kf_wtf hty 9 9 k_v0 (by decide) rfl) rfl (Nat.le_of_ble_eq_true rfl) rfl (Nat.le_of_ble_eq_true rfl) E d_X11_tell_37 rfl ?_
          cases h
          exact wa_iret E d_X11_tell_40
        · replace h := kf_iff c_6 h
          refine wa_iconst (-1) ic_m1 E d_X11_tell_28 ?_
          cases h
          exact wa_iret E d_X11_tell_29
/-! X11_forget -/
theorem d_X11_forget_0 : kf_dq cX11_forget 0 1 1 (.aload_n 0) := ⟨by decide +kernel, rfl⟩
theorem d_X11_forget_1 : kf_dq cX11_forget 1 4 3 (.getfield 79) := ⟨by decide +kernel, rfl⟩
theorem d_X11_forget_4 : kf_dq cX11_forget 4 7 3 (.getfield 110) := ⟨by decide +kernel, rfl⟩
theorem d_X11_forget_7 : kf_dq cX11_forget 7 8 1 (.istore_n 1) := ⟨by decide +kernel, rfl⟩
theorem d_X11_forget_8 : kf_dq cX11_forget 8 9 1 (.aload_n 0) := ⟨by decide +kernel, rfl⟩
theorem d_X11_forget_9 : kf_dq cX11_forget 9 12 3 (.getfield 79) := ⟨by decide +kernel, rfl⟩
theorem d_X11_forget_12 : kf_dq cX11_forget 12 13 1 (.iconst 0) := ⟨by decide +kernel, rfl⟩
theorem d_X11_forget_13 : kf_dq cX11_forget 13 16 3 (.putfield 110) := ⟨by decide +kernel, rfl⟩
theorem d_X11_forget_16 : kf_dq cX11_forget 16 17 1 (.iload_n 1) := ⟨by decide +kernel, rfl⟩
theorem d_X11_forget_17 : kf_dq cX11_forget 17 18 1 (.ireturn) := ⟨by decide +kernel, rfl⟩
def f_X11_forget (v0 : Nat) (σ : kf_St) : Option (Int32 × kf_St) :=
  kf_lt ((σ.1 (kf_rf v0 9) 0)) fun v1_1 =>
  kf_lt (kf_wi σ (kf_rf v0 9) 0 0) fun σ_2 =>
  some (v1_1, σ_2)
set_option maxRecDepth 100000 in
set_option maxHeartbeats 4000000 in
theorem c_X11_forget {G : kf_G} (hty : kf_wt G) (v0 : Nat) (k_v0 : kf_kd G v0 = 12) (σ : kf_St) {q : (Int32 × kf_St)} (h : f_X11_forget v0 σ = some q) : kf_Ct (1) yX11_forget cX11_forget 2 (some .int) G [.ref (kf_ad G v0)] σ (some (.int q.1)) q.2 := by
  refine kf_Ct.of hty.1 (lv := [(0, .ref (kf_ad G v0))]) (by decide +kernel) rfl (Nat.le_of_ble_eq_true rfl) (fun X E => ?_)
  unfold f_X11_forget at h
  refine wa_aload_n 0 rfl E d_X11_forget_0 ?_
  refine wa_getR fl_X11_79 k_v0 rfl E d_X11_forget_1 ?_
  refine wa_getI fl_X11_110 (kf_wtf hty 9 9 k_v0 (by decide) rfl) rfl E d_X11_forget_4 ?_
  obtain ⟨v1_1, ev1_1, h⟩ := kf_lte h
  refine wa_topi ev1_1 ?_
  refine wa_istore_n (lv' := [(1, .int v1_1), (0, .ref (kf_ad G v0))]) rfl (by decide) rfl E d_X11_forget_7 ?_
  refine wa_aload_n 1 rfl E d_X11_forget_8 ?_
  refine wa_getR fl_X11_79 k_v0 rfl E d_X11_forget_9 ?_
  refine wa_iconst 0 ic_0 E d_X11_forget_12 ?_
  obtain ⟨σ_2, eσ_2, h⟩ := kf_lte h
  refine wa_putI fl_X11_110 fp_9_0 (kf_wtf hty 9 9 k_v0 (by decide) rfl) rfl (by decide) rfl rfl E d_X11_forget_13 eσ_2 ?_
  refine wa_iload_n 0 rfl E d_X11_forget_16 ?_
  cases h
  exact wa_iret E d_X11_forget_17
/-! J6_bitCount_0f7a4 -/
theorem d_J6_bitCount_0f7a4_0 : kf_dq cJ6_bitCount_0f7a4 0 1 1 (.iload_n 0) := ⟨by decide +kernel, rfl⟩
theorem d_J6_bitCount_0f7a4_1 : kf_dq cJ6_bitCount_0f7a4 1 2 1 (.iload_n 0) := ⟨by decide +kernel, rfl⟩
theorem d_J6_bitCount_0f7a4_2 : kf_dq cJ6_bitCount_0f7a4 2 3 1 (.iconst 1) := ⟨by decide +kernel, rfl⟩
theorem d_J6_bitCount_0f7a4_3 : kf_dq cJ6_bitCount_0f7a4 3 4 1 (.iushr) := ⟨by decide +kernel, rfl⟩
theorem d_J6_bitCount_0f7a4_4 : kf_dq cJ6_bitCount_0f7a4 4 7 3 (.ldc_w 265) := ⟨by decide +kernel, rfl⟩
theorem d_J6_bitCount_0f7a4_7 : kf_dq cJ6_bitCount_0f7a4 7 8 1 (.iand) := ⟨by decide +kernel, rfl⟩
theorem d_J6_bitCount_0f7a4_8 : kf_dq cJ6_bitCount_0f7a4 8 9 1 (.isub) := ⟨by decide +kernel, rfl⟩
theorem d_J6_bitCount_0f7a4_9 : kf_dq cJ6_bitCount_0f7a4 9 10 1 (.istore_n 0) := ⟨by decide +kernel, rfl⟩
theorem d_J6_bitCount_0f7a4_10 : kf_dq cJ6_bitCount_0f7a4 10 11 1 (.iload_n 0) := ⟨by decide +kernel, rfl⟩
theorem d_J6_bitCount_0f7a4_11 : kf_dq cJ6_bitCount_0f7a4 11 14 3 (.ldc_w 266) := ⟨by decide +kernel, rfl⟩
theorem d_J6_bitCount_0f7a4_14 : kf_dq cJ6_bitCount_0f7a4 14 15 1 (.iand) := ⟨by decide +kernel, rfl⟩
theorem d_J6_bitCount_0f7a4_15 : kf_dq cJ6_bitCount_0f7a4 15 16 1 (.iload_n 0) := ⟨by decide +kernel, rfl⟩
theorem d_J6_bitCount_0f7a4_16 : kf_dq cJ6_bitCount_0f7a4 16 17 1 (.iconst 2) := ⟨by decide +kernel, rfl⟩
theorem d_J6_bitCount_0f7a4_17 : kf_dq cJ6_bitCount_0f7a4 17 18 1 (.iushr) := ⟨by decide +kernel, rfl⟩
theorem d_J6_bitCount_0f7a4_18 : kf_dq cJ6_bitCount_0f7a4 18 21 3 (.ldc_w 266) := ⟨by decide +kernel, rfl⟩
theorem d_J6_bitCount_0f7a4_21 : kf_dq cJ6_bitCount_0f7a4 21 22 1 (.iand) := ⟨by decide +kernel, rfl⟩
theorem d_J6_bitCount_0f7a4_22 : kf_dq cJ6_bitCount_0f7a4 22 23 1 (.iadd) := ⟨by decide +kernel, rfl⟩
theorem d_J6_bitCount_0f7a4_23 : kf_dq cJ6_bitCount_0f7a4 23 24 1 (.istore_n 0) := ⟨by decide +kernel, rfl⟩
theorem d_J6_bitCount_0f7a4_24 : kf_dq cJ6_bitCount_0f7a4 24 25 1 (.iload_n 0) := ⟨by decide +kernel, rfl⟩
theorem d_J6_bitCount_0f7a4_25 : kf_dq cJ6_bitCount_0f7a4 25 26 1 (.iload_n 0) := ⟨by decide +kernel, rfl⟩
theorem d_J6_bitCount_0f7a4_26 : kf_dq cJ6_bitCount_0f7a4 26 27 1 (.iconst 4) := ⟨by decide +kernel, rfl⟩
theorem d_J6_bitCount_0f7a4_27 : kf_dq cJ6_bitCount_0f7a4 27 28 1 (.iushr) := ⟨by decide +kernel, rfl⟩
theorem d_J6_bitCount_0f7a4_28 : kf_dq cJ6_bitCount_0f7a4 28 29 1 (.iadd) := ⟨by decide +kernel, rfl⟩
theorem d_J6_bitCount_0f7a4_29 : kf_dq cJ6_bitCount_0f7a4 29 32 3 (.ldc_w 267) := ⟨by decide +kernel, rfl⟩
theorem d_J6_bitCount_0f7a4_32 : kf_dq cJ6_bitCount_0f7a4 32 33 1 (.iand) := ⟨by decide +kernel, rfl⟩
theorem d_J6_bitCount_0f7a4_33 : kf_dq cJ6_bitCount_0f7a4 33 34 1 (.istore_n 0) := ⟨by decide +kernel, rfl⟩
theorem d_J6_bitCount_0f7a4_34 : kf_dq cJ6_bitCount_0f7a4 34 35 1 (.iload_n 0) := ⟨by decide +kernel, rfl⟩
theorem d_J6_bitCount_0f7a4_35 : kf_dq cJ6_bitCount_0f7a4 35 36 1 (.iload_n 0) := ⟨by decide +kernel, rfl⟩
theorem d_J6_bitCount_0f7a4_36 : kf_dq cJ6_bitCount_0f7a4 36 38 2 (.bipush 8) := ⟨by decide +kernel, rfl⟩
theorem d_J6_bitCount_0f7a4_38 : kf_dq cJ6_bitCount_0f7a4 38 39 1 (.iushr) := ⟨by decide +kernel, rfl⟩
theorem d_J6_bitCount_0f7a4_39 : kf_dq cJ6_bitCount_0f7a4 39 40 1 (.iadd) := ⟨by decide +kernel, rfl⟩
theorem d_J6_bitCount_0f7a4_40 : kf_dq cJ6_bitCount_0f7a4 40 41 1 (.istore_n 0) := ⟨by decide +kernel, rfl⟩
theorem d_J6_bitCount_0f7a4_41 : kf_dq cJ6_bitCount_0f7a4 41 42 1 (.iload_n 0) := ⟨by decide +kernel, rfl⟩
theorem d_J6_bitCount_0f7a4_42 : kf_dq cJ6_bitCount_0f7a4 42 43 1 (.iload_n 0) := ⟨by decide +kernel, rfl⟩
theorem d_J6_bitCount_0f7a4_43 : kf_dq cJ6_bitCount_0f7a4 43 45 2 (.bipush 16) := ⟨by decide +kernel, rfl⟩
theorem d_J6_bitCount_0f7a4_45 : kf_dq cJ6_bitCount_0f7a4 45 46 1 (.iushr) := ⟨by decide +kernel, rfl⟩
theorem d_J6_bitCount_0f7a4_46 : kf_dq cJ6_bitCount_0f7a4 46 47 1 (.iadd) := ⟨by decide +kernel, rfl⟩
theorem d_J6_bitCount_0f7a4_47 : kf_dq cJ6_bitCount_0f7a4 47 48 1 (.istore_n 0) := ⟨by decide +kernel, rfl⟩
theorem d_J6_bitCount_0f7a4_48 : kf_dq cJ6_bitCount_0f7a4 48 49 1 (.iload_n 0) := ⟨by decide +kernel, rfl⟩
theorem d_J6_bitCount_0f7a4_49 : kf_dq cJ6_bitCount_0f7a4 49 51 2 (.bipush 63) := ⟨by decide +kernel, rfl⟩
theorem d_J6_bitCount_0f7a4_51 : kf_dq cJ6_bitCount_0f7a4 51 52 1 (.iand) := ⟨by decide +kernel, rfl⟩
theorem d_J6_bitCount_0f7a4_52 : kf_dq cJ6_bitCount_0f7a4 52 53 1 (.ireturn) := ⟨by decide +kernel, rfl⟩
def f_J6_bitCount_0f7a4 (v0 : Int32) (σ : kf_St) : Option (Int32 × kf_St) :=
  kf_lt ((v0 - (((Int32.toUInt32 v0) >>> ((Int32.toUInt32 1) &&& Int32.toUInt32 31)).toInt32 &&& 1431655765))) fun v0_1 =>
  kf_lt (((v0_1 &&& 858993459) + (((Int32.toUInt32 v0_1) >>> ((Int32.toUInt32 2) &&& Int32.toUInt32 31)).toInt32 &&& 858993459))) fun v0_2 =>
  kf_lt (((v0_2 + ((Int32.toUInt32 v0_2) >>> ((Int32.toUInt32 4) &&& Int32.toUInt32 31)).toInt32) &&& 252645135)) fun v0_3 =>
  kf_lt ((v0_3 + ((Int32.toUInt32 v0_3) >>> ((Int32.toUInt32 8) &&& Int32.toUInt32 31)).toInt32)) fun v0_4 =>
  kf_lt ((v0_4 + ((Int32.toUInt32 v0_4) >>> ((Int32.toUInt32 16) &&& Int32.toUInt32 31)).toInt32)) fun v0_5 =>
  some ((v0_5 &&& 63), σ)
set_option maxRecDepth 100000 in
set_option maxHeartbeats 4000000 in
theorem c_J6_bitCount_0f7a4 {G : kf_G} (hty : kf_wt G) (v0 : Int32) (σ : kf_St) {q : (Int32 × kf_St)} (h : f_J6_bitCount_0f7a4 v0 σ = some q) : kf_Ct (1) yJ6_bitCount_0f7a4 cJ6_bitCount_0f7a4 1 (some .int) G [.int v0] σ (some (.int q.1)) q.2 := by
  refine kf_Ct.of hty.1 (lv := [(0, .int v0)]) (by decide +kernel) rfl (Nat.le_of_ble_eq_true rfl) (fun X E => ?_)
  unfold f_J6_bitCount_0f7a4 at h
  refine wa_iload_n 0 rfl E d_J6_bitCount_0f7a4_0 ?_
  refine wa_iload_n 0 rfl E d_J6_bitCount_0f7a4_1 ?_
  refine wa_iconst 1 ic_1 E d_J6_bitCount_0f7a4_2 ?_
  refine wa_iushr E d_J6_bitCount_0f7a4_3 ?_
  refine wa_ldcw cst_J6_265 E d_J6_bitCount_0f7a4_4 ?_
  refine wa_iand E d_J6_bitCount_0f7a4_7 ?_
  refine wa_isub E d_J6_bitCount_0f7a4_8 ?_
  obtain ⟨v0_1, ev0_1, h⟩ := kf_lte h
  refine wa_topi ev0_1 ?_
  refine wa_istore_n (lv' := [(0, .int v0_1)]) rfl (by decide) rfl E d_J6_bitCount_0f7a4_9 ?_
  refine wa_iload_n 0 rfl E d_J6_bitCount_0f7a4_10 ?_
  refine wa_ldcw cst_J6_266 E d_J6_bitCount_0f7a4_11 ?_
  refine wa_iand E d_J6_bitCount_0f7a4_14 ?_
  refine wa_iload_n 0 rfl E d_J6_bitCount_0f7a4_15 ?_
  refine wa_iconst 2 ic_2 E d_J6_bitCount_0f7a4_16 ?_
  refine wa_iushr E d_J6_bitCount_0f7a4_17 ?_
  refine wa_ldcw cst_J6_266 E d_J6_bitCount_0f7a4_18 ?_
  refine wa_iand E d_J6_bitCount_0f7a4_21 ?_
  refine wa_iadd E d_J6_bitCount_0f7a4_22 ?_
  obtain ⟨v0_2, ev0_2, h⟩ := kf_lte h
  refine wa_topi ev0_2 ?_
  refine wa_istore_n (lv' := [(0, .int v0_2)]) rfl (by decide) rfl E d_J6_bitCount_0f7a4_23 ?_
  refine wa_iload_n 0 rfl E d_J6_bitCount_0f7a4_24 ?_
  refine wa_iload_n 0 rfl E d_J6_bitCount_0f7a4_25 ?_
  refine wa_iconst 4 ic_4 E d_J6_bitCount_0f7a4_26 ?_
  refine wa_iushr E d_J6_bitCount_0f7a4_27 ?_
  refine wa_iadd E d_J6_bitCount_0f7a4_28 ?_
  refine wa_ldcw cst_J6_267 E d_J6_bitCount_0f7a4_29 ?_
  refine wa_iand E d_J6_bitCount_0f7a4_32 ?_
  obtain ⟨v0_3, ev0_3, h⟩ := kf_lte h
  refine wa_topi ev0_3 ?_
  refine wa_istore_n (lv' := [(0, .int v0_3)]) rfl (by decide) rfl E d_J6_bitCount_0f7a4_33 ?_
  refine wa_iload_n 0 rfl E d_J6_bitCount_0f7a4_34 ?_
  refine wa_iload_n 0 rfl E d_J6_bitCount_0f7a4_35 ?_
  refine wa_bipush 8 bp_8 E d_J6_bitCount_0f7a4_36 ?_
  refine wa_iushr E d_J6_bitCount_0f7a4_38 ?_
  refine wa_iadd E d_J6_bitCount_0f7a4_39 ?_
  obtain ⟨v0_4, ev0_4, h⟩ := kf_lte h
  refine wa_topi ev0_4 ?_
  refine wa_istore_n (lv' := [(0, .int v0_4)]) rfl (by decide) rfl E d_J6_bitCount_0f7a4_40 ?_
  refine wa_iload_n 0 rfl E d_J6_bitCount_0f7a4_41 ?_
  refine wa_iload_n 0 rfl E d_J6_bitCount_0f7a4_42 ?_
  refine wa_bipush 16 bp_16 E d_J6_bitCount_0f7a4_43 ?_
  refine wa_iushr E d_J6_bitCount_0f7a4_45 ?_
  refine wa_iadd E d_J6_bitCount_0f7a4_46 ?_
  obtain ⟨v0_5, ev0_5, h⟩ := kf_lte h
  refine wa_topi ev0_5 ?_
  refine wa_istore_n (lv' := [(0, .int v0_5)]) rfl (by decide) rfl E d_J6_bitCount_0f7a4_47 ?_
  refine wa_iload_n 0 rfl E d_J6_bitCount_0f7a4_48 ?_
  refine wa_bipush 63 bp_63 E d_J6_bitCount_0f7a4_49 ?_
  refine wa_iand E d_J6_bitCount_0f7a4_51 ?_
  cases h
  exact wa_iret E d_J6_bitCount_0f7a4_52
/-! X11_who -/
theorem d_X11_who_0 : kf_dq cX11_who 0 1 1 (.iload_n 1) := ⟨by decide +kernel, rfl⟩
theorem d_X11_who_1 : kf_dj cX11_who 1 4 22 (.ifCond .lt) := ⟨21, by decide +kernel, rfl, by decide⟩
theorem d_X11_who_4 : kf_dq cX11_who 4 5 1 (.iload_n 1) := ⟨by decide +kernel, rfl⟩
theorem d_X11_who_5 : kf_dq cX11_who 5 6 1 (.aload_n 0) := ⟨by decide +kernel, rfl⟩
theorem d_X11_who_6 : kf_dq cX11_who 6 9 3 (.getfield 79) := ⟨by decide +kernel, rfl⟩
theorem d_X11_who_9 : kf_dq cX11_who 9 12 3 (.getfield 110) := ⟨by decide +kernel, rfl⟩
theorem d_X11_who_12 : kf_dj cX11_who 12 15 22 (.if_icmp .gt) := ⟨10, by decide +kernel, rfl, by decide⟩
theorem d_X11_who_15 : kf_dq cX11_who 15 16 1 (.iload_n 2) := ⟨by decide +kernel, rfl⟩
theorem d_X11_who_16 : kf_dq cX11_who 16 19 3 (.invokestatic 238) := ⟨by decide +kernel, rfl⟩
theorem d_X11_who_19 : kf_dj cX11_who 19 22 24 (.ifCond .ne) := ⟨5, by decide +kernel, rfl, by decide⟩
theorem d_X11_who_22 : kf_dq cX11_who 22 23 1 (.iconst (-1)) := ⟨by decide +kernel, rfl⟩
theorem d_X11_who_23 : kf_dq cX11_who 23 24 1 (.ireturn) := ⟨by decide +kernel, rfl⟩
theorem d_X11_who_24 : kf_dq cX11_who 24 25 1 (.aload_n 0) := ⟨by decide +kernel, rfl⟩
theorem d_X11_who_25 : kf_dq cX11_who 25 28 3 (.getfield 79) := ⟨by decide +kernel, rfl⟩
theorem d_X11_who_28 : kf_dq cX11_who 28 29 1 (.iload_n 1) := ⟨by decide +kernel, rfl⟩
theorem d_X11_who_29 : kf_dq cX11_who 29 32 3 (.invokevirtual 307) := ⟨by decide +kernel, rfl⟩
theorem d_X11_who_32 : kf_dq cX11_who 32 33 1 (.istore_n 3) := ⟨by decide +kernel, rfl⟩
theorem d_X11_who_33 : kf_dq cX11_who 33 34 1 (.iload_n 2) := ⟨by decide +kernel, rfl⟩
theorem d_X11_who_34 : kf_dj cX11_who 34 37 44 (.ifCond .ne) := ⟨10, by decide +kernel, rfl, by decide⟩
theorem d_X11_who_37 : kf_dq cX11_who 37 38 1 (.iload_n 3) := ⟨by decide +kernel, rfl⟩
theorem d_X11_who_38 : kf_dq cX11_who 38 41 3 (.invokestatic 310) := ⟨by decide +kernel, rfl⟩
theorem d_X11_who_41 : kf_dj cX11_who 41 44 45 .goto := ⟨4, by decide +kernel, rfl, by decide⟩
theorem d_X11_who_44 : kf_dq cX11_who 44 45 1 (.iload_n 3) := ⟨by decide +kernel, rfl⟩
theorem d_X11_who_45 : kf_dq cX11_who 45 46 1 (.ireturn) := ⟨by decide +kernel, rfl⟩
def f_X11_who (v0 : Nat) (v1 : Int32) (v2 : Int32) (σ : kf_St) : Option (Int32 × kf_St) :=
  if v1 < 0 then
    some ((-1), σ)
  else
    if (σ.1 (kf_rf v0 9) 0) < v1 then
      some ((-1), σ)
    else
      (f_X11_isPick v2 σ).bind fun q_3 =>
      if q_3.1 = 0 then
        some ((-1), q_3.2)
      else
        (f_X9_suspects (kf_rf v0 9) v1 q_3.2).bind fun q_5 =>
        if v2 = 0 then
          (f_J6_bitCount_0f7a4 q_5.1 q_5.2).bind fun q_7 =>
          some (q_7.1, q_7.2)
        else
          some (q_5.1, q_5.2)
set_option maxRecDepth 100000 in
set_option maxHeartbeats 4000000 in
theorem c_X11_who {G : kf_G} (hty : kf_wt G) (v0 : Nat) (v1 : Int32) (v2 : Int32) (k_v0 : kf_kd G v0 = 12) (σ : kf_St) {q : (Int32 × kf_St)} (h : f_X11_who v0 v1 v2 σ = some q) : kf_Ct (6) yX11_who cX11_who 4 (some .int) G [.ref (kf_ad G v0), .int v1, .int v2] σ (some (.int q.1)) q.2 := by
  refine kf_Ct.of hty.1 (lv := [(0, .ref (kf_ad G v0)), (1, .int v1), (2, .int v2)]) (by decide +kernel) rfl (Nat.le_of_ble_eq_true rfl) (fun X E => ?_)
  unfold f_X11_who at h
  refine wa_iload_n 1 rfl E d_X11_who_0 ?_
  refine wa_if_lt E d_X11_who_1 (fun c_1 => ?_) (fun c_1 => ?_)
  · replace h := kf_ift c_1 h
    refine wa_iconst (-1) ic_m1 E d_X11_who_22 ?_
    cases h
    exact wa_iret E d_X11_who_23
  · replace h := kf_iff c_1 h
    refine wa_iload_n 1 rfl E d_X11_who_4 ?_
    refine wa_aload_n 0 rfl E d_X11_who_5 ?_
    refine wa_getR fl_X11_79 k_v0 rfl E d_X11_who_6 ?_
    refine wa_getI fl_X11_110 (kf_wtf hty 9 9 k_v0 (by decide) rfl) rfl E d_X11_who_9 ?_
    refine wa_icmp_gt E d_X11_who_12 (fun c_2 => ?_) (fun c_2 => ?_)
    · replace h := kf_ift c_2 h
      refine wa_iconst (-1) ic_m1 E d_X11_who_22 ?_
      cases h
      exact wa_iret E d_X11_who_23
    · replace h := kf_iff c_2 h
      refine wa_iload_n 2 rfl E d_X11_who_15 ?_
      obtain ⟨q_3, hq_3, h⟩ := kf_bd h
      refine wa_callS (st2 := [.int q_3.1]) (c_X11_isPick hty v2 σ hq_3) mt_X11_isPick ml_X11_238 rfl (Nat.le_of_ble_eq_true rfl) rfl (Nat.le_of_ble_eq_true rfl) E d_X11_who_16 rfl ?_
      refine wa_if_ne E d_X11_who_19 (fun c_4 => ?_) (fun c_4 => ?_)
      · replace h := kf_iff c_4 h
        refine wa_aload_n 0 rfl E d_X11_who_24 ?_
        refine wa_getR fl_X11_79 k_v0 rfl E d_X11_who_25 ?_
        refine wa_iload_n 1 rfl E d_X11_who_28 ?_
        obtain ⟨q_5, hq_5, h⟩ := kf_bd h
        refine wa_callV (st2 := [.int q_5.1]) (c_X9_suspects hty (kf_rf v0 9) v1 (kf_wtf hty 9 9 k_v0 (by decide) rfl) q_3.2 hq_5) mv_X9_suspects ml_X11_307 (kf_wtf hty 9 9 k_v0 (by decide) rfl) rfl (Nat.le_of_ble_eq_true rfl) rfl (Nat.le_of_ble_eq_true rfl) E d_X11_who_29 rfl ?_
        refine wa_istore_n (lv' := [(3, .int q_5.1), (0, .ref (kf_ad G v0)), (1, .int v1), (2, .int v2)]) rfl (by decide) rfl E d_X11_who_32 ?_
        refine wa_iload_n 3 rfl E d_X11_who_33 ?_
        refine wa_if_ne E d_X11_who_34 (fun c_6 => ?_) (fun c_6 => ?_)
        · replace h := kf_iff c_6 h
          refine wa_iload_n 0 rfl E d_X11_who_44 ?_
          cases h
          exact wa_iret E d_X11_who_45
        · replace h := kf_ift c_6 h
          refine wa_iload_n 0 rfl E d_X11_who_37 ?_
          obtain ⟨q_7, hq_7, h⟩ := kf_bd h
          refine wa_callS (st2 := [.int q_7.1]) (c_J6_bitCount_0f7a4 hty q_5.1 q_5.2 hq_7) mt_J6_bitCount_0f7a4 ml_X11_310 rfl (Nat.le_of_ble_eq_true rfl) rfl (Nat.le_of_ble_eq_true rfl) E d_X11_who_38 rfl ?_
          refine wa_goto E d_X11_who_41 ?_
          cases h
          exact wa_iret E d_X11_who_45
      · replace h := kf_ift c_4 h
        refine wa_iconst (-1) ic_m1 E d_X11_who_22 ?_
        cases h
        exact wa_iret E d_X11_who_23
/-! X11_ask -/
theorem d_X11_ask_0 : kf_dq cX11_ask 0 1 1 (.iload_n 1) := ⟨by decide +kernel, rfl⟩
theorem d_X11_ask_1 : kf_dj cX11_ask 1 4 15 (.ifCond .lt) := ⟨14, by decide +kernel, rfl, by decide⟩
theorem d_X11_ask_4 : kf_dq cX11_ask 4 5 1 (.iload_n 1) := ⟨by decide +kernel, rfl⟩
theorem d_X11_ask_5 : kf_dq cX11_ask 5 6 1 (.aload_n 0) := ⟨by decide +kernel, rfl⟩
theorem d_X11_ask_6 : kf_dq cX11_ask 6 9 3 (.getfield 79) := ⟨by decide +kernel, rfl⟩
theorem d_X11_ask_9 : kf_dq cX11_ask 9 12 3 (.getfield 110) := ⟨by decide +kernel, rfl⟩
theorem d_X11_ask_12 : kf_dj cX11_ask 12 15 19 (.if_icmp .le) := ⟨7, by decide +kernel, rfl, by decide⟩
theorem d_X11_ask_15 : kf_dq cX11_ask 15 16 1 (.iconst (-1)) := ⟨by decide +kernel, rfl⟩
theorem d_X11_ask_16 : kf_dj cX11_ask 16 19 27 .goto := ⟨11, by decide +kernel, rfl, by decide⟩
theorem d_X11_ask_19 : kf_dq cX11_ask 19 20 1 (.aload_n 0) := ⟨by decide +kernel, rfl⟩
theorem d_X11_ask_20 : kf_dq cX11_ask 20 23 3 (.getfield 79) := ⟨by decide +kernel, rfl⟩
theorem d_X11_ask_23 : kf_dq cX11_ask 23 24 1 (.iload_n 1) := ⟨by decide +kernel, rfl⟩
theorem d_X11_ask_24 : kf_dq cX11_ask 24 27 3 (.invokevirtual 315) := ⟨by decide +kernel, rfl⟩
theorem d_X11_ask_27 : kf_dq cX11_ask 27 28 1 (.ireturn) := ⟨by decide +kernel, rfl⟩
def f_X11_ask (v0 : Nat) (v1 : Int32) (σ : kf_St) : Option (Int32 × kf_St) :=
  if v1 < 0 then
    some ((-1), σ)
  else
    if v1 ≤ (σ.1 (kf_rf v0 9) 0) then
      (f_X9_bestQuestion (kf_rf v0 9) v1 σ).bind fun q_3 =>
      some (q_3.1, q_3.2)
    else
      some ((-1), σ)
set_option maxRecDepth 100000 in
set_option maxHeartbeats 4000000 in
theorem c_X11_ask {G : kf_G} (hty : kf_wt G) (v0 : Nat) (v1 : Int32) (k_v0 : kf_kd G v0 = 12) (σ : kf_St) {q : (Int32 × kf_St)} (h : f_X11_ask v0 v1 σ = some q) : kf_Ct (7) yX11_ask cX11_ask 2 (some .int) G [.ref (kf_ad G v0), .int v1] σ (some (.int q.1)) q.2 := by
  refine kf_Ct.of hty.1 (lv := [(0, .ref (kf_ad G v0)), (1, .int v1)]) (by decide +kernel) rfl (Nat.le_of_ble_eq_true rfl) (fun X E => ?_)
  unfold f_X11_ask at h
  refine wa_iload_n 1 rfl E d_X11_ask_0 ?_
  refine wa_if_lt E d_X11_ask_1 (fun c_1 => ?_) (fun c_1 => ?_)
  · replace h := kf_ift c_1 h
    refine wa_iconst (-1) ic_m1 E d_X11_ask_15 ?_
    refine wa_goto E d_X11_ask_16 ?_
    cases h
    exact wa_iret E d_X11_ask_27
  · replace h := kf_iff c_1 h
    refine wa_iload_n 1 rfl E d_X11_ask_4 ?_
    refine wa_aload_n 0 rfl E d_X11_ask_5 ?_
    refine wa_getR fl_X11_79 k_v0 rfl E d_X11_ask_6 ?_
    refine wa_getI fl_X11_110 (kf_wtf hty 9 9 k_v0 (by decide) rfl) rfl E d_X11_ask_9 ?_
    refine wa_icmp_le E d_X11_ask_12 (fun c_2 => ?_) (fun c_2 => ?_)
    · replace h := kf_ift c_2 h
      refine wa_aload_n 0 rfl E d_X11_ask_19 ?_
      refine wa_getR fl_X11_79 k_v0 rfl E d_X11_ask_20 ?_
      refine wa_iload_n 1 rfl E d_X11_ask_23 ?_
      obtain ⟨q_3, hq_3, h⟩ := kf_bd h
      refine wa_callV (st2 := [.int q_3.1]) (c_X9_bestQuestion hty (kf_rf v0 9) v1 (kf_wtf hty 9 9 k_v0 (by decide) rfl) σ hq_3) mv_X9_bestQuestion ml_X11_315 (kf_wtf hty 9 9 k_v0 (by decide) rfl) rfl (Nat.le_of_ble_eq_true rfl) rfl (Nat.le_of_ble_eq_true rfl) E d_X11_ask_24 rfl ?_
      cases h
      exact wa_iret E d_X11_ask_27
    · replace h := kf_iff c_2 h
      refine wa_iconst (-1) ic_m1 E d_X11_ask_15 ?_
      refine wa_goto E d_X11_ask_16 ?_
      cases h
      exact wa_iret E d_X11_ask_27
/-! X11_hold -/
theorem d_X11_hold_0 : kf_dq cX11_hold 0 1 1 (.iload_n 1) := ⟨by decide +kernel, rfl⟩
theorem d_X11_hold_1 : kf_dq cX11_hold 1 4 3 (.invokestatic 318) := ⟨by decide +kernel, rfl⟩
theorem d_X11_hold_4 : kf_dj cX11_hold 4 7 9 (.ifCond .ne) := ⟨5, by decide +kernel, rfl, by decide⟩
theorem d_X11_hold_7 : kf_dq cX11_hold 7 8 1 (.iconst 0) := ⟨by decide +kernel, rfl⟩
theorem d_X11_hold_8 : kf_dq cX11_hold 8 9 1 (.ireturn) := ⟨by decide +kernel, rfl⟩
theorem d_X11_hold_9 : kf_dq cX11_hold 9 10 1 (.aload_n 0) := ⟨by decide +kernel, rfl⟩
theorem d_X11_hold_10 : kf_dq cX11_hold 10 13 3 (.getfield 45) := ⟨by decide +kernel, rfl⟩
theorem d_X11_hold_13 : kf_dq cX11_hold 13 14 1 (.iload_n 1) := ⟨by decide +kernel, rfl⟩
theorem d_X11_hold_14 : kf_dq cX11_hold 14 15 1 (.aload_n 0) := ⟨by decide +kernel, rfl⟩
theorem d_X11_hold_15 : kf_dq cX11_hold 15 18 3 (.getfield 38) := ⟨by decide +kernel, rfl⟩
theorem d_X11_hold_18 : kf_dq cX11_hold 18 21 3 (.invokevirtual 321) := ⟨by decide +kernel, rfl⟩
theorem d_X11_hold_21 : kf_dq cX11_hold 21 22 1 (.iconst 1) := ⟨by decide +kernel, rfl⟩
theorem d_X11_hold_22 : kf_dq cX11_hold 22 23 1 (.ireturn) := ⟨by decide +kernel, rfl⟩
def f_X11_hold (v0 : Nat) (v1 : Int32) (σ : kf_St) : Option (Int32 × kf_St) :=
  (f_X3_hasSlot v1 σ).bind fun q_1 =>
  if q_1.1 = 0 then
    some (0, q_1.2)
  else
    (f_X3_putInSlot (kf_rf v0 5) v1 (kf_rf v0 4) q_1.2).bind fun q_3 =>
    some (1, q_3)
set_option maxRecDepth 100000 in
set_option maxHeartbeats 4000000 in
theorem c_X11_hold {G : kf_G} (hty : kf_wt G) (v0 : Nat) (v1 : Int32) (k_v0 : kf_kd G v0 = 12) (σ : kf_St) {q : (Int32 × kf_St)} (h : f_X11_hold v0 v1 σ = some q) : kf_Ct (4) yX11_hold cX11_hold 2 (some .boolean) G [.ref (kf_ad G v0), .int v1] σ (some (.int q.1)) q.2 := by
  refine kf_Ct.of hty.1 (lv := [(0, .ref (kf_ad G v0)), (1, .int v1)]) (by decide +kernel) rfl (Nat.le_of_ble_eq_true rfl) (fun X E => ?_)
  unfold f_X11_hold at h
  refine wa_iload_n 1 rfl E d_X11_hold_0 ?_
  obtain ⟨q_1, hq_1, h⟩ := kf_bd h
  refine wa_callS (st2 := [.int q_1.1]) (c_X3_hasSlot hty v1 σ hq_1) mt_X3_hasSlot ml_X11_318 rfl (Nat.le_of_ble_eq_true rfl) rfl (Nat.le_of_ble_eq_true rfl) E d_X11_hold_1 rfl ?_
  refine wa_if_ne E d_X11_hold_4 (fun c_2 => ?_) (fun c_2 => ?_)
  · replace h := kf_iff c_2 h
    refine wa_aload_n 0 rfl E d_X11_hold_9 ?_
    refine wa_getR fl_X11_45 k_v0 rfl E d_X11_hold_10 ?_
    refine wa_iload_n 1 rfl E d_X11_hold_13 ?_
    refine wa_aload_n 0 rfl E d_X11_hold_14 ?_
    refine wa_getR fl_X11_38 k_v0 rfl E d_X11_hold_15 ?_
    obtain ⟨q_3, hq_3, h⟩ := kf_bd h
    refine wa_callV (st2 := []) (c_X3_putInSlot hty (kf_rf v0 5) v1 (kf_rf v0 4) (kf_wtf hty 5 3 k_v0 (by decide) rfl) (kf_wtf hty 4 7 k_v0 (by decide) rfl) q_1.2 hq_3) mv_X3_putInSlot ml_X11_321 (kf_wtf hty 5 3 k_v0 (by decide) rfl) rfl (Nat.le_of_ble_eq_true rfl) rfl (Nat.le_of_ble_eq_true rfl) E d_X11_hold_18 rfl ?_
    refine wa_iconst 1 ic_1 E d_X11_hold_21 ?_
    cases h
    exact wa_zret kf_z1 E d_X11_hold_22
  · replace h := kf_ift c_2 h
    refine wa_iconst 0 ic_0 E d_X11_hold_7 ?_
    cases h
    exact wa_zret kf_z0 E d_X11_hold_8
/-! X11_restore -/
theorem d_X11_restore_0 : kf_dq cX11_restore 0 1 1 (.iload_n 1) := ⟨by decide +kernel, rfl⟩
theorem d_X11_restore_1 : kf_dq cX11_restore 1 4 3 (.invokestatic 318) := ⟨by decide +kernel, rfl⟩
theorem d_X11_restore_4 : kf_dj cX11_restore 4 7 26 (.ifCond .eq) := ⟨22, by decide +kernel, rfl, by decide⟩
theorem d_X11_restore_7 : kf_dq cX11_restore 7 8 1 (.aload_n 0) := ⟨by decide +kernel, rfl⟩
theorem d_X11_restore_8 : kf_dq cX11_restore 8 11 3 (.getfield 45) := ⟨by decide +kernel, rfl⟩
theorem d_X11_restore_11 : kf_dq cX11_restore 11 12 1 (.iload_n 1) := ⟨by decide +kernel, rfl⟩
theorem d_X11_restore_12 : kf_dq cX11_restore 12 13 1 (.aload_n 0) := ⟨by decide +kernel, rfl⟩
theorem d_X11_restore_13 : kf_dq cX11_restore 13 16 3 (.getfield 38) := ⟨by decide +kernel, rfl⟩
theorem d_X11_restore_16 : kf_dq cX11_restore 16 19 3 (.invokevirtual 325) := ⟨by decide +kernel, rfl⟩
theorem d_X11_restore_19 : kf_dj cX11_restore 19 22 26 (.ifCond .eq) := ⟨7, by decide +kernel, rfl, by decide⟩
theorem d_X11_restore_22 : kf_dq cX11_restore 22 23 1 (.iconst 1) := ⟨by decide +kernel, rfl⟩
theorem d_X11_restore_23 : kf_dj cX11_restore 23 26 27 .goto := ⟨4, by decide +kernel, rfl, by decide⟩
theorem d_X11_restore_26 : kf_dq cX11_restore 26 27 1 (.iconst 0) := ⟨by decide +kernel, rfl⟩
theorem d_X11_restore_27 : kf_dq cX11_restore 27 28 1 (.ireturn) := ⟨by decide +kernel, rfl⟩
def f_X11_restore (v0 : Nat) (v1 : Int32) (σ : kf_St) : Option (Int32 × kf_St) :=
  (f_X3_hasSlot v1 σ).bind fun q_1 =>
  if q_1.1 = 0 then
    some (0, q_1.2)
  else
    (f_X3_takeFromSlot (kf_rf v0 5) v1 (kf_rf v0 4) q_1.2).bind fun q_3 =>
    if q_3.1 = 0 then
      some (0, q_3.2)
    else
      some (1, q_3.2)
set_option maxRecDepth 100000 in
set_option maxHeartbeats 4000000 in
theorem c_X11_restore {G : kf_G} (hty : kf_wt G) (v0 : Nat) (v1 : Int32) (k_v0 : kf_kd G v0 = 12) (σ : kf_St) {q : (Int32 × kf_St)} (h : f_X11_restore v0 v1 σ = some q) : kf_Ct (4) yX11_restore cX11_restore 2 (some .boolean) G [.ref (kf_ad G v0), .int v1] σ (some (.int q.1)) q.2 := by
  refine kf_Ct.of hty.1 (lv := [(0, .ref (kf_ad G v0)), (1, .int v1)]) (by decide +kernel) rfl (Nat.le_of_ble_eq_true rfl) (fun X E => ?_)
  unfold f_X11_restore at h
  refine wa_iload_n 1 rfl E d_X11_restore_0 ?_
  obtain ⟨q_1, hq_1, h⟩ := kf_bd h
  refine wa_callS (st2 := [.int q_1.1]) (c_X3_hasSlot hty v1 σ hq_1) mt_X3_hasSlot ml_X11_318 rfl (Nat.le_of_ble_eq_true rfl) rfl (Nat.le_of_ble_eq_true rfl) E d_X11_restore_1 rfl ?_
  refine wa_if_eq E d_X11_restore_4 (fun c_2 => ?_) (fun c_2 => ?_)
  · replace h := kf_ift c_2 h
    refine wa_iconst 0 ic_0 E d_X11_restore_26 ?_
    cases h
    exact wa_zret kf_z0 E d_X11_restore_27
  · replace h := kf_iff c_2 h
    refine wa_aload_n 0 rfl E d_X11_restore_7 ?_
    refine wa_getR fl_X11_45 k_v0 rfl E d_X11_restore_8 ?_
    refine wa_iload_n 1 rfl E d_X11_restore_11 ?_
    refine wa_aload_n 0 rfl E d_X11_restore_12 ?_
    refine wa_getR fl_X11_38 k_v0 rfl E d_X11_restore_13 ?_
    obtain ⟨q_3, hq_3, h⟩ := kf_bd h
    refine wa_callV (st2 := [.int q_3.1]) (c_X3_takeFromSlot hty (kf_rf v0 5) v1 (kf_rf v0 4) (kf_wtf hty 5 3 k_v0 (by decide) rfl) (kf_wtf hty 4 7 k_v0 (by decide) rfl) q_1.2 hq_3) mv_X3_takeFromSlot ml_X11_325 (kf_wtf hty 5 3 k_v0 (by decide) rfl) rfl (Nat.le_of_ble_eq_true rfl) rfl (Nat.le_of_ble_eq_true rfl) E d_X11_restore_16 rfl ?_
    refine wa_if_eq E d_X11_restore_19 (fun c_4 => ?_) (fun c_4 => ?_)
    · replace h := kf_ift c_4 h
      refine wa_iconst 0 ic_0 E d_X11_restore_26 ?_
      cases h
      exact wa_zret kf_z0 E d_X11_restore_27
    · replace h := kf_iff c_4 h
      refine wa_iconst 1 ic_1 E d_X11_restore_22 ?_
      refine wa_goto E d_X11_restore_23 ?_
      cases h
      exact wa_zret kf_z1 E d_X11_restore_27
/-! X11_callersKnown -/
theorem d_X11_callersKnown_0 : kf_dq cX11_callersKnown 0 1 1 (.iconst 0) := ⟨by decide +kernel, rfl⟩
theorem d_X11_callersKnown_1 : kf_dq cX11_callersKnown 1 2 1 (.istore_n 1) := ⟨by decide +kernel, rfl⟩
theorem d_X11_callersKnown_2 : kf_dq cX11_callersKnown 2 3 1 (.iconst 0) := ⟨by decide +kernel, rfl⟩
theorem d_X11_callersKnown_3 : kf_dq cX11_callersKnown 3 4 1 (.istore_n 2) := ⟨by decide +kernel, rfl⟩
theorem d_X11_callersKnown_4 : kf_dq cX11_callersKnown 4 5 1 (.iload_n 2) := ⟨by decide +kernel, rfl⟩
theorem d_X11_callersKnown_5 : kf_dq cX11_callersKnown 5 6 1 (.aload_n 0) := ⟨by decide +kernel, rfl⟩
theorem d_X11_callersKnown_6 : kf_dq cX11_callersKnown 6 9 3 (.getfield 19) := ⟨by decide +kernel, rfl⟩
theorem d_X11_callersKnown_9 : kf_dq cX11_callersKnown 9 12 3 (.getfield 256) := ⟨by decide +kernel, rfl⟩
theorem d_X11_callersKnown_12 : kf_dj cX11_callersKnown 12 15 51 (.if_icmp .ge) := ⟨39, by decide +kernel, rfl, by decide⟩
theorem d_X11_callersKnown_15 : kf_dq cX11_callersKnown 15 16 1 (.aload_n 0) := ⟨by decide +kernel, rfl⟩
theorem d_X11_callersKnown_16 : kf_dq cX11_callersKnown 16 19 3 (.getfield 19) := ⟨by decide +kernel, rfl⟩
theorem d_X11_callersKnown_19 : kf_dq cX11_callersKnown 19 20 1 (.aload_n 0) := ⟨by decide +kernel, rfl⟩
theorem d_X11_callersKnown_20 : kf_dq cX11_callersKnown 20 23 3 (.getfield 38) := ⟨by decide +kernel, rfl⟩
theorem d_X11_callersKnown_23 : kf_dq cX11_callersKnown 23 26 3 (.getfield 119) := ⟨by decide +kernel, rfl⟩
theorem d_X11_callersKnown_26 : kf_dq cX11_callersKnown 26 27 1 (.iload_n 2) := ⟨by decide +kernel, rfl⟩
theorem d_X11_callersKnown_27 : kf_dq cX11_callersKnown 27 28 1 (.aaload) := ⟨by decide +kernel, rfl⟩
theorem d_X11_callersKnown_28 : kf_dq cX11_callersKnown 28 31 3 (.getfield 123) := ⟨by decide +kernel, rfl⟩
theorem d_X11_callersKnown_31 : kf_dq cX11_callersKnown 31 34 3 (.invokevirtual 141) := ⟨by decide +kernel, rfl⟩
theorem d_X11_callersKnown_34 : kf_dq cX11_callersKnown 34 35 1 (.istore_n 3) := ⟨by decide +kernel, rfl⟩
theorem d_X11_callersKnown_35 : kf_dq cX11_callersKnown 35 36 1 (.iload_n 3) := ⟨by decide +kernel, rfl⟩
theorem d_X11_callersKnown_36 : kf_dj cX11_callersKnown 36 39 45 (.ifCond .lt) := ⟨9, by decide +kernel, rfl, by decide⟩
theorem d_X11_callersKnown_39 : kf_dq cX11_callersKnown 39 40 1 (.iload_n 1) := ⟨by decide +kernel, rfl⟩
theorem d_X11_callersKnown_40 : kf_dq cX11_callersKnown 40 41 1 (.iconst 1) := ⟨by decide +kernel, rfl⟩
theorem d_X11_callersKnown_41 : kf_dq cX11_callersKnown 41 42 1 (.iload_n 3) := ⟨by decide +kernel, rfl⟩
theorem d_X11_callersKnown_42 : kf_dq cX11_callersKnown 42 43 1 (.ishl) := ⟨by decide +kernel, rfl⟩
theorem d_X11_callersKnown_43 : kf_dq cX11_callersKnown 43 44 1 (.ior) := ⟨by decide +kernel, rfl⟩
theorem d_X11_callersKnown_44 : kf_dq cX11_callersKnown 44 45 1 (.istore_n 1) := ⟨by decide +kernel, rfl⟩
theorem d_X11_callersKnown_45 : kf_dq cX11_callersKnown 45 48 3 (.iinc 2 1) := ⟨by decide +kernel, rfl⟩
theorem d_X11_callersKnown_48 : kf_dj cX11_callersKnown 48 51 4 .goto := ⟨(-44), by decide +kernel, rfl, by decide⟩
theorem d_X11_callersKnown_51 : kf_dq cX11_callersKnown 51 52 1 (.iload_n 1) := ⟨by decide +kernel, rfl⟩
theorem d_X11_callersKnown_52 : kf_dq cX11_callersKnown 52 53 1 (.ireturn) := ⟨by decide +kernel, rfl⟩
def f_X11_callersKnown_45 (rec4 : Nat → Int32 → Int32 → kf_St → Option (Int32 × kf_St)) (v0 : Nat) (v1 : Int32) (v2 : Int32) (σ : kf_St) : Option (Int32 × kf_St) :=
  kf_lt (v2 + 1) fun v2_1 =>
  rec4 v0 v1 v2_1 σ
set_option maxRecDepth 100000 in
set_option maxHeartbeats 4000000 in
theorem b_X11_callersKnown_45 {X : kf_X} {G : kf_G} {rec4 : Nat → Int32 → Int32 → kf_St → Option (Int32 × kf_St)} {q : (Int32 × kf_St)} (E : kf_ok X G cX11_callersKnown RX11 4 (some .int) (4)) (hty : kf_wt G) (hrec4 : ∀ (v0 : Nat) (v1 : Int32) (v2 : Int32) (k_v0 : kf_kd G v0 = 12) (σ : kf_St), rec4 v0 v1 v2 σ = some q → kf_WA X G 4 (kf_Q X G (some (.int q.1)) q.2) 4 [(0, .ref (kf_ad G v0)), (1, .int v1), (2, .int v2)] [] σ) (v0 : Nat) (v1 : Int32) (v2 : Int32) (k_v0 : kf_kd G v0 = 12) (σ : kf_St) (h : f_X11_callersKnown_45 rec4 v0 v1 v2 σ = some q) : kf_WA X G 4 (kf_Q X G (some (.int q.1)) q.2) 45 [(0, .ref (kf_ad G v0)), (1, .int v1), (2, .int v2)] [] σ := by
  unfold f_X11_callersKnown_45 at h
  obtain ⟨v2_1, ev2_1, h⟩ := kf_lte h
  refine wa_iinc (lv' := [(2, .int v2_1), (0, .ref (kf_ad G v0)), (1, .int v1)]) v2_1 2 rfl (kf_inc ic_1 ev2_1) (by decide) rfl E d_X11_callersKnown_45 ?_
  refine wa_goto E d_X11_callersKnown_48 ?_
  refine wa_sub [1, 2, 0] rfl ?_
  exact hrec4 v0 v1 v2_1 k_v0 σ h
def f_X11_callersKnown_4_s (rec4 : Nat → Int32 → Int32 → kf_St → Option (Int32 × kf_St)) (v0 : Nat) (v1 : Int32) (v2 : Int32) (σ : kf_St) : Option (Int32 × kf_St) :=
  if (σ.1 (kf_rf v0 1) 0) ≤ v2 then
    some (v1, σ)
  else
    if kf_ix v2 (kf_ln (kf_rf (kf_rf v0 4) 0)) = true then
    (f_X10_knownBy (kf_rf v0 1) (kf_rf (kf_rf (kf_rf (kf_rf v0 4) 0) (Int32.toNatClampNeg v2)) 0) σ).bind fun q_3 =>
    if q_3.1 < 0 then
      f_X11_callersKnown_45 rec4 v0 v1 v2 q_3.2
    else
      kf_lt ((v1 ||| ((1 : Int32) <<< (q_3.1 &&& 31)))) fun v1_5 =>
      f_X11_callersKnown_45 rec4 v0 v1_5 v2 q_3.2
    else none
def f_X11_callersKnown_4 : Nat → Nat → Int32 → Int32 → kf_St → Option (Int32 × kf_St)
  | 0, _, _, _, _ => none
  | n + 1, v0, v1, v2, σ => f_X11_callersKnown_4_s (f_X11_callersKnown_4 n) v0 v1 v2 σ
set_option maxRecDepth 100000 in
set_option maxHeartbeats 4000000 in
theorem b_X11_callersKnown_4_s {X : kf_X} {G : kf_G} (rec4 : Nat → Int32 → Int32 → kf_St → Option (Int32 × kf_St)) {q : (Int32 × kf_St)} (E : kf_ok X G cX11_callersKnown RX11 4 (some .int) (4)) (hty : kf_wt G) (hrec4 : ∀ (v0 : Nat) (v1 : Int32) (v2 : Int32) (k_v0 : kf_kd G v0 = 12) (σ : kf_St), rec4 v0 v1 v2 σ = some q → kf_WA X G 4 (kf_Q X G (some (.int q.1)) q.2) 4 [(0, .ref (kf_ad G v0)), (1, .int v1), (2, .int v2)] [] σ) (v0 : Nat) (v1 : Int32) (v2 : Int32) (k_v0 : kf_kd G v0 = 12) (σ : kf_St) (h : f_X11_callersKnown_4_s rec4 v0 v1 v2 σ = some q) : kf_WA X G 4 (kf_Q X G (some (.int q.1)) q.2) 4 [(0, .ref (kf_ad G v0)), (1, .int v1), (2, .int v2)] [] σ := by
  unfold f_X11_callersKnown_4_s at h
  refine wa_iload_n 2 rfl E d_X11_callersKnown_4 ?_
  refine wa_aload_n 0 rfl E d_X11_callersKnown_5 ?_
  refine wa_getR fl_X11_19 k_v0 rfl E d_X11_callersKnown_6 ?_
  refine wa_getI fl_X11_256 (kf_wtf hty 1 10 k_v0 (by decide) rfl) rfl E d_X11_callersKnown_9 ?_
  refine wa_icmp_ge E d_X11_callersKnown_12 (fun c_1 => ?_) (fun c_1 => ?_)
  · replace h := kf_ift c_1 h
    refine wa_iload_n 1 rfl E d_X11_callersKnown_51 ?_
    cases h
    exact wa_iret E d_X11_callersKnown_52
  · replace h := kf_iff c_1 h
    refine wa_aload_n 0 rfl E d_X11_callersKnown_15 ?_
    refine wa_getR fl_X11_19 k_v0 rfl E d_X11_callersKnown_16 ?_
    refine wa_aload_n 0 rfl E d_X11_callersKnown_19 ?_
    refine wa_getR fl_X11_38 k_v0 rfl E d_X11_callersKnown_20 ?_
    refine wa_getR fl_X11_119 (kf_wtf hty 4 7 k_v0 (by decide) rfl) rfl E d_X11_callersKnown_23 ?_
    refine wa_iload_n 2 rfl E d_X11_callersKnown_26 ?_
    obtain ⟨g_2, h⟩ := kf_gd h
    refine wa_aald (kf_wtf hty 0 53 (kf_wtf hty 4 7 k_v0 (by decide) rfl) (by decide) rfl) g_2 E d_X11_callersKnown_27 ?_
    refine wa_getR fl_X11_123 (kf_wta hty (kf_wtf hty 0 53 (kf_wtf hty 4 7 k_v0 (by decide) rfl) (by decide) rfl) g_2) rfl E d_X11_callersKnown_28 ?_
    obtain ⟨q_3, hq_3, h⟩ := kf_bd h
    refine wa_callV (st2 := [.int q_3.1]) (c_X10_knownBy hty (kf_rf v0 1) (kf_rf (kf_rf (kf_rf (kf_rf v0 4) 0) (Int32.toNatClampNeg v2)) 0) (kf_wtf hty 1 10 k_v0 (by decide) rfl) (kf_wtf hty 0 49 (kf_wta hty (kf_wtf hty 0 53 (kf_wtf hty 4 7 k_v0 (by decide) rfl) (by decide) rfl) g_2) (by decide) rfl) σ hq_3) mv_X10_knownBy ml_X11_141 (kf_wtf hty 1 10 k_v0 (by decide) rfl) rfl (Nat.le_of_ble_eq_true rfl) rfl (Nat.le_of_ble_eq_true rfl) E d_X11_callersKnown_31 rfl ?_
    refine wa_istore_n (lv' := [(3, .int q_3.1), (0, .ref (kf_ad G v0)), (1, .int v1), (2, .int v2)]) rfl (by decide) rfl E d_X11_callersKnown_34 ?_
    refine wa_iload_n 0 rfl E d_X11_callersKnown_35 ?_
    refine wa_if_lt E d_X11_callersKnown_36 (fun c_4 => ?_) (fun c_4 => ?_)
    · replace h := kf_ift c_4 h
      refine wa_sub [1, 2, 3] rfl ?_
      exact b_X11_callersKnown_45 E hty hrec4 v0 v1 v2 k_v0 q_3.2 h
    · replace h := kf_iff c_4 h
      refine wa_iload_n 2 rfl E d_X11_callersKnown_39 ?_
      refine wa_iconst 1 ic_1 E d_X11_callersKnown_40 ?_
      refine wa_iload_n 0 rfl E d_X11_callersKnown_41 ?_
      refine wa_ishl E d_X11_callersKnown_42 ?_
      refine wa_ior E d_X11_callersKnown_43 ?_
      obtain ⟨v1_5, ev1_5, h⟩ := kf_lte h
      refine wa_topi ev1_5 ?_
      refine wa_istore_n (lv' := [(1, .int v1_5), (3, .int q_3.1), (0, .ref (kf_ad G v0)), (2, .int v2)]) rfl (by decide) rfl E d_X11_callersKnown_44 ?_
      refine wa_sub [2, 0, 3] rfl ?_
      exact b_X11_callersKnown_45 E hty hrec4 v0 v1_5 v2 k_v0 q_3.2 h
theorem b_X11_callersKnown_4 {X : kf_X} {G : kf_G} {q : (Int32 × kf_St)} (E : kf_ok X G cX11_callersKnown RX11 4 (some .int) (4)) (hty : kf_wt G) : ∀ (N : Nat) (v0 : Nat) (v1 : Int32) (v2 : Int32) (k_v0 : kf_kd G v0 = 12) (σ : kf_St) (_ : f_X11_callersKnown_4 N v0 v1 v2 σ = some q), kf_WA X G 4 (kf_Q X G (some (.int q.1)) q.2) 4 [(0, .ref (kf_ad G v0)), (1, .int v1), (2, .int v2)] [] σ
  | 0, _, _, _, _, _, h => by cases h
  | N + 1, v0, v1, v2, k_v0, σ, h => b_X11_callersKnown_4_s _ E hty (b_X11_callersKnown_4 E hty N) v0 v1 v2 k_v0 σ h
def f_X11_callersKnown (v0 : Nat) (σ : kf_St) : Option (Int32 × kf_St) :=
  f_X11_callersKnown_4 kf_F v0 0 0 σ
set_option maxRecDepth 100000 in
set_option maxHeartbeats 4000000 in
theorem c_X11_callersKnown {G : kf_G} (hty : kf_wt G) (v0 : Nat) (k_v0 : kf_kd G v0 = 12) (σ : kf_St) {q : (Int32 × kf_St)} (h : f_X11_callersKnown v0 σ = some q) : kf_Ct (4) yX11_callersKnown cX11_callersKnown 4 (some .int) G [.ref (kf_ad G v0)] σ (some (.int q.1)) q.2 := by
  refine kf_Ct.of hty.1 (lv := [(0, .ref (kf_ad G v0))]) (by decide +kernel) rfl (Nat.le_of_ble_eq_true rfl) (fun X E => ?_)
  unfold f_X11_callersKnown at h
  refine wa_iconst 0 ic_0 E d_X11_callersKnown_0 ?_
  refine wa_istore_n (lv' := [(1, .int 0), (0, .ref (kf_ad G v0))]) rfl (by decide) rfl E d_X11_callersKnown_1 ?_
  refine wa_iconst 0 ic_0 E d_X11_callersKnown_2 ?_
  refine wa_istore_n (lv' := [(2, .int 0), (1, .int 0), (0, .ref (kf_ad G v0))]) rfl (by decide) rfl E d_X11_callersKnown_3 ?_
  refine wa_sub [2, 1, 0] rfl ?_
  exact b_X11_callersKnown_4 E hty kf_F v0 0 0 k_v0 σ h
/-! X11_shareOfDoor -/
theorem d_X11_shareOfDoor_0 : kf_dq cX11_shareOfDoor 0 1 1 (.aload_n 0) := ⟨by decide +kernel, rfl⟩
theorem d_X11_shareOfDoor_1 : kf_dq cX11_shareOfDoor 1 4 3 (.getfield 38) := ⟨by decide +kernel, rfl⟩
theorem d_X11_shareOfDoor_4 : kf_dq cX11_shareOfDoor 4 7 3 (.getfield 119) := ⟨by decide +kernel, rfl⟩
theorem d_X11_shareOfDoor_7 : kf_dq cX11_shareOfDoor 7 8 1 (.iload_n 1) := ⟨by decide +kernel, rfl⟩
theorem d_X11_shareOfDoor_8 : kf_dq cX11_shareOfDoor 8 9 1 (.aaload) := ⟨by decide +kernel, rfl⟩
theorem d_X11_shareOfDoor_9 : kf_dq cX11_shareOfDoor 9 10 1 (.astore_n 3) := ⟨by decide +kernel, rfl⟩
theorem d_X11_shareOfDoor_10 : kf_dq cX11_shareOfDoor 10 11 1 (.iload_n 2) := ⟨by decide +kernel, rfl⟩
theorem d_X11_shareOfDoor_11 : decode cX11_shareOfDoor 11 = .ok (.tableswitch 140 4 16 #[65, 87, 92, 140, 140, 140, 140, 140, 140, 140, 97, 120, 135], 65) := by decide +kernel
theorem d_X11_shareOfDoor_76 : kf_dq cX11_shareOfDoor 76 77 1 (.aload_n 0) := ⟨by decide +kernel, rfl⟩
theorem d_X11_shareOfDoor_77 : kf_dq cX11_shareOfDoor 77 80 3 (.getfield 19) := ⟨by decide +kernel, rfl⟩
theorem d_X11_shareOfDoor_80 : kf_dq cX11_shareOfDoor 80 81 1 (.aload_n 3) := ⟨by decide +kernel, rfl⟩
theorem d_X11_shareOfDoor_81 : kf_dq cX11_shareOfDoor 81 84 3 (.getfield 123) := ⟨by decide +kernel, rfl⟩
theorem d_X11_shareOfDoor_84 : kf_dq cX11_shareOfDoor 84 87 3 (.invokevirtual 141) := ⟨by decide +kernel, rfl⟩
theorem d_X11_shareOfDoor_87 : kf_dj cX11_shareOfDoor 87 90 96 (.ifCond .lt) := ⟨9, by decide +kernel, rfl, by decide⟩
theorem d_X11_shareOfDoor_90 : kf_dq cX11_shareOfDoor 90 91 1 (.iconst 1) := ⟨by decide +kernel, rfl⟩
theorem d_X11_shareOfDoor_91 : kf_dq cX11_shareOfDoor 91 92 1 (.iload_n 1) := ⟨by decide +kernel, rfl⟩
theorem d_X11_shareOfDoor_92 : kf_dq cX11_shareOfDoor 92 93 1 (.ishl) := ⟨by decide +kernel, rfl⟩
theorem d_X11_shareOfDoor_93 : kf_dj cX11_shareOfDoor 93 96 97 .goto := ⟨4, by decide +kernel, rfl, by decide⟩
theorem d_X11_shareOfDoor_96 : kf_dq cX11_shareOfDoor 96 97 1 (.iconst 0) := ⟨by decide +kernel, rfl⟩
theorem d_X11_shareOfDoor_97 : kf_dq cX11_shareOfDoor 97 98 1 (.ireturn) := ⟨by decide +kernel, rfl⟩
theorem d_X11_shareOfDoor_98 : kf_dq cX11_shareOfDoor 98 99 1 (.aload_n 3) := ⟨by decide +kernel, rfl⟩
theorem d_X11_shareOfDoor_99 : kf_dq cX11_shareOfDoor 99 102 3 (.getfield 129) := ⟨by decide +kernel, rfl⟩
theorem d_X11_shareOfDoor_102 : kf_dq cX11_shareOfDoor 102 103 1 (.ireturn) := ⟨by decide +kernel, rfl⟩
theorem d_X11_shareOfDoor_103 : kf_dq cX11_shareOfDoor 103 104 1 (.aload_n 3) := ⟨by decide +kernel, rfl⟩
theorem d_X11_shareOfDoor_104 : kf_dq cX11_shareOfDoor 104 107 3 (.getfield 138) := ⟨by decide +kernel, rfl⟩
theorem d_X11_shareOfDoor_107 : kf_dq cX11_shareOfDoor 107 108 1 (.ireturn) := ⟨by decide +kernel, rfl⟩
theorem d_X11_shareOfDoor_108 : kf_dq cX11_shareOfDoor 108 109 1 (.aload_n 0) := ⟨by decide +kernel, rfl⟩
theorem d_X11_shareOfDoor_109 : kf_dq cX11_shareOfDoor 109 112 3 (.getfield 38) := ⟨by decide +kernel, rfl⟩
theorem d_X11_shareOfDoor_112 : kf_dq cX11_shareOfDoor 112 113 1 (.iload_n 1) := ⟨by decide +kernel, rfl⟩
theorem d_X11_shareOfDoor_113 : kf_dq cX11_shareOfDoor 113 114 1 (.aload_n 0) := ⟨by decide +kernel, rfl⟩
theorem d_X11_shareOfDoor_114 : kf_dq cX11_shareOfDoor 114 117 3 (.getfield 19) := ⟨by decide +kernel, rfl⟩
theorem d_X11_shareOfDoor_117 : kf_dq cX11_shareOfDoor 117 120 3 (.invokevirtual 145) := ⟨by decide +kernel, rfl⟩
theorem d_X11_shareOfDoor_120 : kf_dj cX11_shareOfDoor 120 123 129 (.ifCond .ne) := ⟨9, by decide +kernel, rfl, by decide⟩
theorem d_X11_shareOfDoor_123 : kf_dq cX11_shareOfDoor 123 124 1 (.iconst 1) := ⟨by decide +kernel, rfl⟩
theorem d_X11_shareOfDoor_124 : kf_dq cX11_shareOfDoor 124 125 1 (.iload_n 1) := ⟨by decide +kernel, rfl⟩
theorem d_X11_shareOfDoor_125 : kf_dq cX11_shareOfDoor 125 126 1 (.ishl) := ⟨by decide +kernel, rfl⟩
theorem d_X11_shareOfDoor_126 : kf_dj cX11_shareOfDoor 126 129 130 .goto := ⟨4, by decide +kernel, rfl, by decide⟩
theorem d_X11_shareOfDoor_129 : kf_dq cX11_shareOfDoor 129 130 1 (.iconst 0) := ⟨by decide +kernel, rfl⟩
theorem d_X11_shareOfDoor_130 : kf_dq cX11_shareOfDoor 130 131 1 (.ireturn) := ⟨by decide +kernel, rfl⟩
theorem d_X11_shareOfDoor_131 : kf_dq cX11_shareOfDoor 131 132 1 (.aload_n 3) := ⟨by decide +kernel, rfl⟩
theorem d_X11_shareOfDoor_132 : kf_dq cX11_shareOfDoor 132 135 3 (.getfield 132) := ⟨by decide +kernel, rfl⟩
theorem d_X11_shareOfDoor_135 : kf_dj cX11_shareOfDoor 135 138 144 (.ifCond .le) := ⟨9, by decide +kernel, rfl, by decide⟩
theorem d_X11_shareOfDoor_138 : kf_dq cX11_shareOfDoor 138 139 1 (.iconst 1) := ⟨by decide +kernel, rfl⟩
theorem d_X11_shareOfDoor_139 : kf_dq cX11_shareOfDoor 139 140 1 (.iload_n 1) := ⟨by decide +kernel, rfl⟩
theorem d_X11_shareOfDoor_140 : kf_dq cX11_shareOfDoor 140 141 1 (.ishl) := ⟨by decide +kernel, rfl⟩
theorem d_X11_shareOfDoor_141 : kf_dj cX11_shareOfDoor 141 144 145 .goto := ⟨4, by decide +kernel, rfl, by decide⟩
theorem d_X11_shareOfDoor_144 : kf_dq cX11_shareOfDoor 144 145 1 (.iconst 0) := ⟨by decide +kernel, rfl⟩
theorem d_X11_shareOfDoor_145 : kf_dq cX11_shareOfDoor 145 146 1 (.ireturn) := ⟨by decide +kernel, rfl⟩
theorem d_X11_shareOfDoor_146 : kf_dq cX11_shareOfDoor 146 147 1 (.aload_n 3) := ⟨by decide +kernel, rfl⟩
theorem d_X11_shareOfDoor_147 : kf_dq cX11_shareOfDoor 147 150 3 (.getfield 135) := ⟨by decide +kernel, rfl⟩
theorem d_X11_shareOfDoor_150 : kf_dq cX11_shareOfDoor 150 151 1 (.ireturn) := ⟨by decide +kernel, rfl⟩
theorem d_X11_shareOfDoor_151 : kf_dq cX11_shareOfDoor 151 152 1 (.iconst 0) := ⟨by decide +kernel, rfl⟩
theorem d_X11_shareOfDoor_152 : kf_dq cX11_shareOfDoor 152 153 1 (.ireturn) := ⟨by decide +kernel, rfl⟩
def f_X11_shareOfDoor_151 (σ : kf_St) : Option (Int32 × kf_St) :=
  some (0, σ)
set_option maxRecDepth 100000 in
set_option maxHeartbeats 4000000 in
theorem b_X11_shareOfDoor_151 {X : kf_X} {G : kf_G} {q : (Int32 × kf_St)} (E : kf_ok X G cX11_shareOfDoor RX11 4 (some .int) (4)) (hty : kf_wt G) (σ : kf_St) (h : f_X11_shareOfDoor_151  σ = some q) : kf_WA X G 4 (kf_Q X G (some (.int q.1)) q.2) 151 [] [] σ := by
  unfold f_X11_shareOfDoor_151 at h
  refine wa_iconst 0 ic_0 E d_X11_shareOfDoor_151 ?_
  cases h
  exact wa_iret E d_X11_shareOfDoor_152
def f_X11_shareOfDoor (v0 : Nat) (v1 : Int32) (v2 : Int32) (σ : kf_St) : Option (Int32 × kf_St) :=
  if kf_ix v1 (kf_ln (kf_rf (kf_rf v0 4) 0)) = true then
  if v2 = 4 then
    (f_X10_knownBy (kf_rf v0 1) (kf_rf (kf_rf (kf_rf (kf_rf v0 4) 0) (Int32.toNatClampNeg v1)) 0) σ).bind fun q_3 =>
    if q_3.1 < 0 then
      some (0, q_3.2)
    else
      some (((1 : Int32) <<< (v1 &&& 31)), q_3.2)
  else
    if v2 = 5 then
      some ((σ.1 (kf_rf (kf_rf (kf_rf v0 4) 0) (Int32.toNatClampNeg v1)) 1), σ)
    else
      if v2 = 6 then
        some ((σ.1 (kf_rf (kf_rf (kf_rf v0 4) 0) (Int32.toNatClampNeg v1)) 4), σ)
      else
        if v2 = 14 then
          (f_X7_offFirst (kf_rf v0 4) v1 (kf_rf v0 1) σ).bind fun q_8 =>
          if q_8.1 = 0 then
            some (((1 : Int32) <<< (v1 &&& 31)), q_8.2)
          else
            some (0, q_8.2)
        else
          if v2 = 15 then
            if (σ.1 (kf_rf (kf_rf (kf_rf v0 4) 0) (Int32.toNatClampNeg v1)) 2) ≤ 0 then
              some (0, σ)
            else
              some (((1 : Int32) <<< (v1 &&& 31)), σ)
          else
            if v2 = 16 then
              some ((σ.1 (kf_rf (kf_rf (kf_rf v0 4) 0) (Int32.toNatClampNeg v1)) 3), σ)
            else
              f_X11_shareOfDoor_151 σ
  else none
set_option maxRecDepth 100000 in
set_option maxHeartbeats 4000000 in
theorem c_X11_shareOfDoor {G : kf_G} (hty : kf_wt G) (v0 : Nat) (v1 : Int32) (v2 : Int32) (k_v0 : kf_kd G v0 = 12) (σ : kf_St) {q : (Int32 × kf_St)} (h : f_X11_shareOfDoor v0 v1 v2 σ = some q) : kf_Ct (4) yX11_shareOfDoor cX11_shareOfDoor 4 (some .int) G [.ref (kf_ad G v0), .int v1, .int v2] σ (some (.int q.1)) q.2 := by
  refine kf_Ct.of hty.1 (lv := [(0, .ref (kf_ad G v0)), (1, .int v1), (2, .int v2)]) (by decide +kernel) rfl (Nat.le_of_ble_eq_true rfl) (fun X E => ?_)
  unfold f_X11_shareOfDoor at h
  refine wa_aload_n 0 rfl E d_X11_shareOfDoor_0 ?_
  refine wa_getR fl_X11_38 k_v0 rfl E d_X11_shareOfDoor_1 ?_
  refine wa_getR fl_X11_119 (kf_wtf hty 4 7 k_v0 (by decide) rfl) rfl E d_X11_shareOfDoor_4 ?_
  refine wa_iload_n 1 rfl E d_X11_shareOfDoor_7 ?_
  obtain ⟨g_1, h⟩ := kf_gd h
  refine wa_aald (kf_wtf hty 0 53 (kf_wtf hty 4 7 k_v0 (by decide) rfl) (by decide) rfl) g_1 E d_X11_shareOfDoor_8 ?_
  refine wa_astore_n (lv' := [(3, .ref (kf_ad G (kf_rf (kf_rf (kf_rf v0 4) 0) (Int32.toNatClampNeg v1)))), (0, .ref (kf_ad G v0)), (1, .int v1), (2, .int v2)]) rfl (by decide) rfl E d_X11_shareOfDoor_9 ?_
  refine wa_iload_n 3 rfl E d_X11_shareOfDoor_10 ?_
  by_cases c_2 : v2 = 4
  · replace h := kf_ift c_2 h
    refine wa_tabIn (off := 65) (tgt := 76) (by rw [c_2]; decide) (by rw [c_2]; decide) (by rw [c_2]; rfl) (by decide) E d_X11_shareOfDoor_11 ?_
    refine wa_aload_n 1 rfl E d_X11_shareOfDoor_76 ?_
    refine wa_getR fl_X11_19 k_v0 rfl E d_X11_shareOfDoor_77 ?_
    refine wa_aload_n 0 rfl E d_X11_shareOfDoor_80 ?_
    refine wa_getR fl_X11_123 (kf_wta hty (kf_wtf hty 0 53 (kf_wtf hty 4 7 k_v0 (by decide) rfl) (by decide) rfl) g_1) rfl E d_X11_shareOfDoor_81 ?_
    obtain ⟨q_3, hq_3, h⟩ := kf_bd h
    refine wa_callV (st2 := [.int q_3.1]) (c_X10_knownBy hty (kf_rf v0 1) (kf_rf (kf_rf (kf_rf (kf_rf v0 4) 0) (Int32.toNatClampNeg v1)) 0) (kf_wtf hty 1 10 k_v0 (by decide) rfl) (kf_wtf hty 0 49 (kf_wta hty (kf_wtf hty 0 53 (kf_wtf hty 4 7 k_v0 (by decide) rfl) (by decide) rfl) g_1) (by decide) rfl) σ hq_3) mv_X10_knownBy ml_X11_141 (kf_wtf hty 1 10 k_v0 (by decide) rfl) rfl (Nat.le_of_ble_eq_true rfl) rfl (Nat.le_of_ble_eq_true rfl) E d_X11_shareOfDoor_84 rfl ?_
    refine wa_if_lt E d_X11_shareOfDoor_87 (fun c_4 => ?_) (fun c_4 => ?_)
    · replace h := kf_ift c_4 h
      refine wa_iconst 0 ic_0 E d_X11_shareOfDoor_96 ?_
      cases h
      exact wa_iret E d_X11_shareOfDoor_97
    · replace h := kf_iff c_4 h
      refine wa_iconst 1 ic_1 E d_X11_shareOfDoor_90 ?_
      refine wa_iload_n 2 rfl E d_X11_shareOfDoor_91 ?_
      refine wa_ishl E d_X11_shareOfDoor_92 ?_
      refine wa_goto E d_X11_shareOfDoor_93 ?_
      cases h
      exact wa_iret E d_X11_shareOfDoor_97
  · replace h := kf_iff c_2 h
    by_cases c_5 : v2 = 5
    · replace h := kf_ift c_5 h
      refine wa_tabIn (off := 87) (tgt := 98) (by rw [c_5]; decide) (by rw [c_5]; decide) (by rw [c_5]; rfl) (by decide) E d_X11_shareOfDoor_11 ?_
      refine wa_aload_n 0 rfl E d_X11_shareOfDoor_98 ?_
      refine wa_getI fl_X11_129 (kf_wta hty (kf_wtf hty 0 53 (kf_wtf hty 4 7 k_v0 (by decide) rfl) (by decide) rfl) g_1) rfl E d_X11_shareOfDoor_99 ?_
      cases h
      exact wa_iret E d_X11_shareOfDoor_102
    · replace h := kf_iff c_5 h
      by_cases c_6 : v2 = 6
      · replace h := kf_ift c_6 h
        refine wa_tabIn (off := 92) (tgt := 103) (by rw [c_6]; decide) (by rw [c_6]; decide) (by rw [c_6]; rfl) (by decide) E d_X11_shareOfDoor_11 ?_
        refine wa_aload_n 0 rfl E d_X11_shareOfDoor_103 ?_
        refine wa_getI fl_X11_138 (kf_wta hty (kf_wtf hty 0 53 (kf_wtf hty 4 7 k_v0 (by decide) rfl) (by decide) rfl) g_1) rfl E d_X11_shareOfDoor_104 ?_
        cases h
        exact wa_iret E d_X11_shareOfDoor_107
      · replace h := kf_iff c_6 h
        by_cases c_7 : v2 = 14
        · replace h := kf_ift c_7 h
          refine wa_tabIn (off := 97) (tgt := 108) (by rw [c_7]; decide) (by rw [c_7]; decide) (by rw [c_7]; rfl) (by decide) E d_X11_shareOfDoor_11 ?_
          refine wa_aload_n 1 rfl E d_X11_shareOfDoor_108 ?_
          refine wa_getR fl_X11_38 k_v0 rfl E d_X11_shareOfDoor_109 ?_
          refine wa_iload_n 2 rfl E d_X11_shareOfDoor_112 ?_
          refine wa_aload_n 1 rfl E d_X11_shareOfDoor_113 ?_
          refine wa_getR fl_X11_19 k_v0 rfl E d_X11_shareOfDoor_114 ?_
          obtain ⟨q_8, hq_8, h⟩ := kf_bd h
          refine wa_callV (st2 := [.int q_8.1]) (c_X7_offFirst hty (kf_rf v0 4) v1 (kf_rf v0 1) (kf_wtf hty 4 7 k_v0 (by decide) rfl) (kf_wtf hty 1 10 k_v0 (by decide) rfl) σ hq_8) mv_X7_offFirst ml_X11_145 (kf_wtf hty 4 7 k_v0 (by decide) rfl) rfl (Nat.le_of_ble_eq_true rfl) rfl (Nat.le_of_ble_eq_true rfl) E d_X11_shareOfDoor_117 rfl ?_
          refine wa_if_ne E d_X11_shareOfDoor_120 (fun c_9 => ?_) (fun c_9 => ?_)
          · replace h := kf_iff c_9 h
            refine wa_iconst 0 ic_0 E d_X11_shareOfDoor_129 ?_
            cases h
            exact wa_iret E d_X11_shareOfDoor_130
          · replace h := kf_ift c_9 h
            refine wa_iconst 1 ic_1 E d_X11_shareOfDoor_123 ?_
            refine wa_iload_n 2 rfl E d_X11_shareOfDoor_124 ?_
            refine wa_ishl E d_X11_shareOfDoor_125 ?_
            refine wa_goto E d_X11_shareOfDoor_126 ?_
            cases h
            exact wa_iret E d_X11_shareOfDoor_130
        · replace h := kf_iff c_7 h
          by_cases c_10 : v2 = 15
          · replace h := kf_ift c_10 h
            refine wa_tabIn (off := 120) (tgt := 131) (by rw [c_10]; decide) (by rw [c_10]; decide) (by rw [c_10]; rfl) (by decide) E d_X11_shareOfDoor_11 ?_
            refine wa_aload_n 0 rfl E d_X11_shareOfDoor_131 ?_
            refine wa_getI fl_X11_132 (kf_wta hty (kf_wtf hty 0 53 (kf_wtf hty 4 7 k_v0 (by decide) rfl) (by decide) rfl) g_1) rfl E d_X11_shareOfDoor_132 ?_
            refine wa_if_le E d_X11_shareOfDoor_135 (fun c_11 => ?_) (fun c_11 => ?_)
            · replace h := kf_ift c_11 h
              refine wa_iconst 0 ic_0 E d_X11_shareOfDoor_144 ?_
              cases h
              exact wa_iret E d_X11_shareOfDoor_145
            · replace h := kf_iff c_11 h
              refine wa_iconst 1 ic_1 E d_X11_shareOfDoor_138 ?_
              refine wa_iload_n 2 rfl E d_X11_shareOfDoor_139 ?_
              refine wa_ishl E d_X11_shareOfDoor_140 ?_
              refine wa_goto E d_X11_shareOfDoor_141 ?_
              cases h
              exact wa_iret E d_X11_shareOfDoor_145
          · replace h := kf_iff c_10 h
            by_cases c_12 : v2 = 16
            · replace h := kf_ift c_12 h
              refine wa_tabIn (off := 135) (tgt := 146) (by rw [c_12]; decide) (by rw [c_12]; decide) (by rw [c_12]; rfl) (by decide) E d_X11_shareOfDoor_11 ?_
              refine wa_aload_n 0 rfl E d_X11_shareOfDoor_146 ?_
              refine wa_getI fl_X11_135 (kf_wta hty (kf_wtf hty 0 53 (kf_wtf hty 4 7 k_v0 (by decide) rfl) (by decide) rfl) g_1) rfl E d_X11_shareOfDoor_147 ?_
              cases h
              exact wa_iret E d_X11_shareOfDoor_150
            · replace h := kf_iff c_12 h
              by_cases c_13 : v2 = 7
              · refine wa_tabIn (off := 140) (tgt := 151) (by rw [c_13]; decide) (by rw [c_13]; decide) (by rw [c_13]; rfl) (by decide) E d_X11_shareOfDoor_11 ?_
                refine wa_sub [] rfl ?_
                exact b_X11_shareOfDoor_151 E hty σ h
              by_cases c_14 : v2 = 8
              · refine wa_tabIn (off := 140) (tgt := 151) (by rw [c_14]; decide) (by rw [c_14]; decide) (by rw [c_14]; rfl) (by decide) E d_X11_shareOfDoor_11 ?_
                refine wa_sub [] rfl ?_
                exact b_X11_shareOfDoor_151 E hty σ h
              by_cases c_15 : v2 = 9
              · refine wa_tabIn (off := 140) (tgt := 151) (by rw [c_15]; decide) (by rw [c_15]; decide) (by rw [c_15]; rfl) (by decide) E d_X11_shareOfDoor_11 ?_
                refine wa_sub [] rfl ?_
                exact b_X11_shareOfDoor_151 E hty σ h
              by_cases c_16 : v2 = 10
              · refine wa_tabIn (off := 140) (tgt := 151) (by rw [c_16]; decide) (by rw [c_16]; decide) (by rw [c_16]; rfl) (by decide) E d_X11_shareOfDoor_11 ?_
                refine wa_sub [] rfl ?_
                exact b_X11_shareOfDoor_151 E hty σ h
              by_cases c_17 : v2 = 11
              · refine wa_tabIn (off := 140) (tgt := 151) (by rw [c_17]; decide) (by rw [c_17]; decide) (by rw [c_17]; rfl) (by decide) E d_X11_shareOfDoor_11 ?_
                refine wa_sub [] rfl ?_
                exact b_X11_shareOfDoor_151 E hty σ h
              by_cases c_18 : v2 = 12
              · refine wa_tabIn (off := 140) (tgt := 151) (by rw [c_18]; decide) (by rw [c_18]; decide) (by rw [c_18]; rfl) (by decide) E d_X11_shareOfDoor_11 ?_
                refine wa_sub [] rfl ?_
                exact b_X11_shareOfDoor_151 E hty σ h
              by_cases c_19 : v2 = 13
              · refine wa_tabIn (off := 140) (tgt := 151) (by rw [c_19]; decide) (by rw [c_19]; decide) (by rw [c_19]; rfl) (by decide) E d_X11_shareOfDoor_11 ?_
                refine wa_sub [] rfl ?_
                exact b_X11_shareOfDoor_151 E hty σ h
              refine wa_tabOut (tgt := 151) (kf_out [4, 5, 6, 14, 15, 16, 7, 8, 9, 10, 11, 12, 13] (by decide +kernel) (List.forall_mem_cons.mpr ⟨c_2, List.forall_mem_cons.mpr ⟨c_5, List.forall_mem_cons.mpr ⟨c_6, List.forall_mem_cons.mpr ⟨c_7, List.forall_mem_cons.mpr ⟨c_10, List.forall_mem_cons.mpr ⟨c_12, List.forall_mem_cons.mpr ⟨c_13, List.forall_mem_cons.mpr ⟨c_14, List.forall_mem_cons.mpr ⟨c_15, List.forall_mem_cons.mpr ⟨c_16, List.forall_mem_cons.mpr ⟨c_17, List.forall_mem_cons.mpr ⟨c_18, List.forall_mem_cons.mpr ⟨c_19, fun _ h => absurd h List.not_mem_nil⟩⟩⟩⟩⟩⟩⟩⟩⟩⟩⟩⟩⟩)) (by decide) E d_X11_shareOfDoor_11 ?_
              refine wa_sub [] rfl ?_
              exact b_X11_shareOfDoor_151 E hty σ h
/-! X11_countOverDoors -/
theorem d_X11_countOverDoors_0 : kf_dq cX11_countOverDoors 0 1 1 (.iconst 0) := ⟨by decide +kernel, rfl⟩
theorem d_X11_countOverDoors_1 : kf_dq cX11_countOverDoors 1 2 1 (.istore_n 2) := ⟨by decide +kernel, rfl⟩
theorem d_X11_countOverDoors_2 : kf_dq cX11_countOverDoors 2 3 1 (.iconst 0) := ⟨by decide +kernel, rfl⟩
theorem d_X11_countOverDoors_3 : kf_dq cX11_countOverDoors 3 4 1 (.istore_n 3) := ⟨by decide +kernel, rfl⟩
theorem d_X11_countOverDoors_4 : kf_dq cX11_countOverDoors 4 5 1 (.iload_n 3) := ⟨by decide +kernel, rfl⟩
theorem d_X11_countOverDoors_5 : kf_dq cX11_countOverDoors 5 6 1 (.aload_n 0) := ⟨by decide +kernel, rfl⟩
theorem d_X11_countOverDoors_6 : kf_dq cX11_countOverDoors 6 9 3 (.getfield 19) := ⟨by decide +kernel, rfl⟩
theorem d_X11_countOverDoors_9 : kf_dq cX11_countOverDoors 9 12 3 (.getfield 256) := ⟨by decide +kernel, rfl⟩
theorem d_X11_countOverDoors_12 : kf_dj cX11_countOverDoors 12 15 30 (.if_icmp .ge) := ⟨18, by decide +kernel, rfl, by decide⟩
theorem d_X11_countOverDoors_15 : kf_dq cX11_countOverDoors 15 16 1 (.iload_n 2) := ⟨by decide +kernel, rfl⟩
theorem d_X11_countOverDoors_16 : kf_dq cX11_countOverDoors 16 17 1 (.aload_n 0) := ⟨by decide +kernel, rfl⟩
theorem d_X11_countOverDoors_17 : kf_dq cX11_countOverDoors 17 18 1 (.iload_n 3) := ⟨by decide +kernel, rfl⟩
theorem d_X11_countOverDoors_18 : kf_dq cX11_countOverDoors 18 19 1 (.iload_n 1) := ⟨by decide +kernel, rfl⟩
theorem d_X11_countOverDoors_19 : kf_dq cX11_countOverDoors 19 22 3 (.invokevirtual 350) := ⟨by decide +kernel, rfl⟩
theorem d_X11_countOverDoors_22 : kf_dq cX11_countOverDoors 22 23 1 (.iadd) := ⟨by decide +kernel, rfl⟩
theorem d_X11_countOverDoors_23 : kf_dq cX11_countOverDoors 23 24 1 (.istore_n 2) := ⟨by decide +kernel, rfl⟩
theorem d_X11_countOverDoors_24 : kf_dq cX11_countOverDoors 24 27 3 (.iinc 3 1) := ⟨by decide +kernel, rfl⟩
theorem d_X11_countOverDoors_27 : kf_dj cX11_countOverDoors 27 30 4 .goto := ⟨(-23), by decide +kernel, rfl, by decide⟩
theorem d_X11_countOverDoors_30 : kf_dq cX11_countOverDoors 30 31 1 (.iload_n 1) := ⟨by decide +kernel, rfl⟩
theorem d_X11_countOverDoors_31 : kf_dq cX11_countOverDoors 31 32 1 (.iconst 4) := ⟨by decide +kernel, rfl⟩
theorem d_X11_countOverDoors_32 : kf_dj cX11_countOverDoors 32 35 58 (.if_icmp .eq) := ⟨26, by decide +kernel, rfl, by decide⟩
theorem d_X11_countOverDoors_35 : kf_dq cX11_countOverDoors 35 36 1 (.iload_n 1) := ⟨by decide +kernel, rfl⟩
theorem d_X11_countOverDoors_36 : kf_dq cX11_countOverDoors 36 37 1 (.iconst 5) := ⟨by decide +kernel, rfl⟩
theorem d_X11_countOverDoors_37 : kf_dj cX11_countOverDoors 37 40 58 (.if_icmp .eq) := ⟨21, by decide +kernel, rfl, by decide⟩
theorem d_X11_countOverDoors_40 : kf_dq cX11_countOverDoors 40 41 1 (.iload_n 1) := ⟨by decide +kernel, rfl⟩
theorem d_X11_countOverDoors_41 : kf_dq cX11_countOverDoors 41 43 2 (.bipush 6) := ⟨by decide +kernel, rfl⟩
theorem d_X11_countOverDoors_43 : kf_dj cX11_countOverDoors 43 46 58 (.if_icmp .eq) := ⟨15, by decide +kernel, rfl, by decide⟩
theorem d_X11_countOverDoors_46 : kf_dq cX11_countOverDoors 46 47 1 (.iload_n 1) := ⟨by decide +kernel, rfl⟩
theorem d_X11_countOverDoors_47 : kf_dq cX11_countOverDoors 47 49 2 (.bipush 14) := ⟨by decide +kernel, rfl⟩
theorem d_X11_countOverDoors_49 : kf_dj cX11_countOverDoors 49 52 62 (.if_icmp .lt) := ⟨13, by decide +kernel, rfl, by decide⟩
theorem d_X11_countOverDoors_52 : kf_dq cX11_countOverDoors 52 53 1 (.iload_n 1) := ⟨by decide +kernel, rfl⟩
theorem d_X11_countOverDoors_53 : kf_dq cX11_countOverDoors 53 55 2 (.bipush 16) := ⟨by decide +kernel, rfl⟩
theorem d_X11_countOverDoors_55 : kf_dj cX11_countOverDoors 55 58 62 (.if_icmp .gt) := ⟨7, by decide +kernel, rfl, by decide⟩
theorem d_X11_countOverDoors_58 : kf_dq cX11_countOverDoors 58 59 1 (.iload_n 2) := ⟨by decide +kernel, rfl⟩
theorem d_X11_countOverDoors_59 : kf_dj cX11_countOverDoors 59 62 63 .goto := ⟨4, by decide +kernel, rfl, by decide⟩
theorem d_X11_countOverDoors_62 : kf_dq cX11_countOverDoors 62 63 1 (.iconst (-1)) := ⟨by decide +kernel, rfl⟩
theorem d_X11_countOverDoors_63 : kf_dq cX11_countOverDoors 63 64 1 (.ireturn) := ⟨by decide +kernel, rfl⟩
def f_X11_countOverDoors_4_s (rec4 : Nat → Int32 → Int32 → Int32 → kf_St → Option (Int32 × kf_St)) (v0 : Nat) (v1 : Int32) (v2 : Int32) (v3 : Int32) (σ : kf_St) : Option (Int32 × kf_St) :=
  if (σ.1 (kf_rf v0 1) 0) ≤ v3 then
    if v1 = 4 then
      some (v2, σ)
    else
      if v1 = 5 then
        some (v2, σ)
      else
        if v1 = 6 then
          some (v2, σ)
        else
          if v1 < 14 then
            some ((-1), σ)
          else
            if 16 < v1 then
              some ((-1), σ)
            else
              some (v2, σ)
  else
    (f_X11_shareOfDoor v0 v3 v1 σ).bind fun q_7 =>
    kf_lt ((v2 + q_7.1)) fun v2_8 =>
    kf_lt (v3 + 1) fun v3_9 =>
    rec4 v0 v1 v2_8 v3_9 q_7.2
def f_X11_countOverDoors_4 : Nat → Nat → Int32 → Int32 → Int32 → kf_St → Option (Int32 × kf_St)
  | 0, _, _, _, _, _ => none
  | n + 1, v0, v1, v2, v3, σ => f_X11_countOverDoors_4_s (f_X11_countOverDoors_4 n) v0 v1 v2 v3 σ
set_option maxRecDepth 100000 in
set_option maxHeartbeats 4000000 in
theorem b_X11_countOverDoors_4_s {X : kf_X} {G : kf_G} (rec4 : Nat → Int32 → Int32 → Int32 → kf_St → Option (Int32 × kf_St)) {q : (Int32 × kf_St)} (E : kf_ok X G cX11_countOverDoors RX11 4 (some .int) (5)) (hty : kf_wt G) (hrec4 : ∀ (v0 : Nat) (v1 : Int32) (v2 : Int32) (v3 : Int32) (k_v0 : kf_kd G v0 = 12) (σ : kf_St), rec4 v0 v1 v2 v3 σ = some q → kf_WA X G 4 (kf_Q X G (some (.int q.1)) q.2) 4 [(0, .ref (kf_ad G v0)), (1, .int v1), (2, .int v2), (3, .int v3)] [] σ) (v0 : Nat) (v1 : Int32) (v2 : Int32) (v3 : Int32) (k_v0 : kf_kd G v0 = 12) (σ : kf_St) (h : f_X11_countOverDoors_4_s rec4 v0 v1 v2 v3 σ = some q) : kf_WA X G 4 (kf_Q X G (some (.int q.1)) q.2) 4 [(0, .ref (kf_ad G v0)), (1, .int v1), (2, .int v2), (3, .int v3)] [] σ := by
  unfold f_X11_countOverDoors_4_s at h
  refine wa_iload_n 3 rfl E d_X11_countOverDoors_4 ?_
  refine wa_aload_n 0 rfl E d_X11_countOverDoors_5 ?_
  refine wa_getR fl_X11_19 k_v0 rfl E d_X11_countOverDoors_6 ?_
  refine wa_getI fl_X11_256 (kf_wtf hty 1 10 k_v0 (by decide) rfl) rfl E d_X11_countOverDoors_9 ?_
  refine wa_icmp_ge E d_X11_countOverDoors_12 (fun c_1 => ?_) (fun c_1 => ?_)
  · replace h := kf_ift c_1 h
    refine wa_iload_n 1 rfl E d_X11_countOverDoors_30 ?_
    refine wa_iconst 4 ic_4 E d_X11_countOverDoors_31 ?_
    refine wa_icmp_eq E d_X11_countOverDoors_32 (fun c_2 => ?_) (fun c_2 => ?_)
    · replace h := kf_ift c_2 h
      refine wa_iload_n 2 rfl E d_X11_countOverDoors_58 ?_
      refine wa_goto E d_X11_countOverDoors_59 ?_
      cases h
      exact wa_iret E d_X11_countOverDoors_63
    · replace h := kf_iff c_2 h
      refine wa_iload_n 1 rfl E d_X11_countOverDoors_35 ?_
      refine wa_iconst 5 ic_5 E d_X11_countOverDoors_36 ?_
      refine wa_icmp_eq E d_X11_countOverDoors_37 (fun c_3 => ?_) (fun c_3 => ?_)
      · replace h := kf_ift c_3 h
        refine wa_iload_n 2 rfl E d_X11_countOverDoors_58 ?_
        refine wa_goto E d_X11_countOverDoors_59 ?_
        cases h
        exact wa_iret E d_X11_countOverDoors_63
      · replace h := kf_iff c_3 h
        refine wa_iload_n 1 rfl E d_X11_countOverDoors_40 ?_
        refine wa_bipush 6 bp_6 E d_X11_countOverDoors_41 ?_
        refine wa_icmp_eq E d_X11_countOverDoors_43 (fun c_4 => ?_) (fun c_4 => ?_)
        · replace h := kf_ift c_4 h
          refine wa_iload_n 2 rfl E d_X11_countOverDoors_58 ?_
          refine wa_goto E d_X11_countOverDoors_59 ?_
          cases h
          exact wa_iret E d_X11_countOverDoors_63
        · replace h := kf_iff c_4 h
          refine wa_iload_n 1 rfl E d_X11_countOverDoors_46 ?_
          refine wa_bipush 14 bp_14 E d_X11_countOverDoors_47 ?_
          refine wa_icmp_lt E d_X11_countOverDoors_49 (fun c_5 => ?_) (fun c_5 => ?_)
          · replace h := kf_ift c_5 h
            refine wa_iconst (-1) ic_m1 E d_X11_countOverDoors_62 ?_
            cases h
            exact wa_iret E d_X11_countOverDoors_63
          · replace h := kf_iff c_5 h
            refine wa_iload_n 1 rfl E d_X11_countOverDoors_52 ?_
            refine wa_bipush 16 bp_16 E d_X11_countOverDoors_53 ?_
            refine wa_icmp_gt E d_X11_countOverDoors_55 (fun c_6 => ?_) (fun c_6 => ?_)
            · replace h := kf_ift c_6 h
              refine wa_iconst (-1) ic_m1 E d_X11_countOverDoors_62 ?_
              cases h
              exact wa_iret E d_X11_countOverDoors_63
            · replace h := kf_iff c_6 h
              refine wa_iload_n 2 rfl E d_X11_countOverDoors_58 ?_
              refine wa_goto E d_X11_countOverDoors_59 ?_
              cases h
              exact wa_iret E d_X11_countOverDoors_63
  · replace h := kf_iff c_1 h
    refine wa_iload_n 2 rfl E d_X11_countOverDoors_15 ?_
    refine wa_aload_n 0 rfl E d_X11_countOverDoors_16 ?_
    refine wa_iload_n 3 rfl E d_X11_countOverDoors_17 ?_
    refine wa_iload_n 1 rfl E d_X11_countOverDoors_18 ?_
    obtain ⟨q_7, hq_7, h⟩ := kf_bd h
    refine wa_callV (st2 := [.int q_7.1, .int v2]) (c_X11_shareOfDoor hty v0 v3 v1 k_v0 σ hq_7) mv_X11_shareOfDoor ml_X11_350 k_v0 rfl (Nat.le_of_ble_eq_true rfl) rfl (Nat.le_of_ble_eq_true rfl) E d_X11_countOverDoors_19 rfl ?_
    refine wa_iadd E d_X11_countOverDoors_22 ?_
    obtain ⟨v2_8, ev2_8, h⟩ := kf_lte h
    refine wa_topi ev2_8 ?_
    refine wa_istore_n (lv' := [(2, .int v2_8), (0, .ref (kf_ad G v0)), (1, .int v1), (3, .int v3)]) rfl (by decide) rfl E d_X11_countOverDoors_23 ?_
    obtain ⟨v3_9, ev3_9, h⟩ := kf_lte h
    refine wa_iinc (lv' := [(3, .int v3_9), (2, .int v2_8), (0, .ref (kf_ad G v0)), (1, .int v1)]) v3_9 3 rfl (kf_inc ic_1 ev3_9) (by decide) rfl E d_X11_countOverDoors_24 ?_
    refine wa_goto E d_X11_countOverDoors_27 ?_
    refine wa_sub [2, 3, 1, 0] rfl ?_
    exact hrec4 v0 v1 v2_8 v3_9 k_v0 q_7.2 h
theorem b_X11_countOverDoors_4 {X : kf_X} {G : kf_G} {q : (Int32 × kf_St)} (E : kf_ok X G cX11_countOverDoors RX11 4 (some .int) (5)) (hty : kf_wt G) : ∀ (N : Nat) (v0 : Nat) (v1 : Int32) (v2 : Int32) (v3 : Int32) (k_v0 : kf_kd G v0 = 12) (σ : kf_St) (_ : f_X11_countOverDoors_4 N v0 v1 v2 v3 σ = some q), kf_WA X G 4 (kf_Q X G (some (.int q.1)) q.2) 4 [(0, .ref (kf_ad G v0)), (1, .int v1), (2, .int v2), (3, .int v3)] [] σ
  | 0, _, _, _, _, _, _, h => by cases h
  | N + 1, v0, v1, v2, v3, k_v0, σ, h => b_X11_countOverDoors_4_s _ E hty (b_X11_countOverDoors_4 E hty N) v0 v1 v2 v3 k_v0 σ h
def f_X11_countOverDoors (v0 : Nat) (v1 : Int32) (σ : kf_St) : Option (Int32 × kf_St) :=
  f_X11_countOverDoors_4 kf_F v0 v1 0 0 σ
set_option maxRecDepth 100000 in
set_option maxHeartbeats 4000000 in
theorem c_X11_countOverDoors {G : kf_G} (hty : kf_wt G) (v0 : Nat) (v1 : Int32) (k_v0 : kf_kd G v0 = 12) (σ : kf_St) {q : (Int32 × kf_St)} (h : f_X11_countOverDoors v0 v1 σ = some q) : kf_Ct (5) yX11_countOverDoors cX11_countOverDoors 4 (some .int) G [.ref (kf_ad G v0), .int v1] σ (some (.int q.1)) q.2 := by
  refine kf_Ct.of hty.1 (lv := [(0, .ref (kf_ad G v0)), (1, .int v1)]) (by decide +kernel) rfl (Nat.le_of_ble_eq_true rfl) (fun X E => ?_)
  unfold f_X11_countOverDoors at h
  refine wa_iconst 0 ic_0 E d_X11_countOverDoors_0 ?_
  refine wa_istore_n (lv' := [(2, .int 0), (0, .ref (kf_ad G v0)), (1, .int v1)]) rfl (by decide) rfl E d_X11_countOverDoors_1 ?_
  refine wa_iconst 0 ic_0 E d_X11_countOverDoors_2 ?_
  refine wa_istore_n (lv' := [(3, .int 0), (2, .int 0), (0, .ref (kf_ad G v0)), (1, .int v1)]) rfl (by decide) rfl E d_X11_countOverDoors_3 ?_
  refine wa_sub [2, 3, 1, 0] rfl ?_
  exact b_X11_countOverDoors_4 E hty kf_F v0 v1 0 0 k_v0 σ h
/-! X11_count -/
theorem d_X11_count_0 : kf_dq cX11_count 0 1 1 (.iload_n 1) := ⟨by decide +kernel, rfl⟩
theorem d_X11_count_1 : decode cX11_count 1 = .ok (.tableswitch 184 0 13 #[71, 79, 87, 95, 184, 184, 184, 103, 111, 119, 127, 135, 146, 176], 71) := by decide +kernel
theorem d_X11_count_72 : kf_dq cX11_count 72 73 1 (.aload_n 0) := ⟨by decide +kernel, rfl⟩
theorem d_X11_count_73 : kf_dq cX11_count 73 76 3 (.getfield 19) := ⟨by decide +kernel, rfl⟩
theorem d_X11_count_76 : kf_dq cX11_count 76 79 3 (.getfield 256) := ⟨by decide +kernel, rfl⟩
theorem d_X11_count_79 : kf_dq cX11_count 79 80 1 (.ireturn) := ⟨by decide +kernel, rfl⟩
theorem d_X11_count_80 : kf_dq cX11_count 80 81 1 (.aload_n 0) := ⟨by decide +kernel, rfl⟩
theorem d_X11_count_81 : kf_dq cX11_count 81 84 3 (.getfield 19) := ⟨by decide +kernel, rfl⟩
theorem d_X11_count_84 : kf_dq cX11_count 84 87 3 (.getfield 241) := ⟨by decide +kernel, rfl⟩
theorem d_X11_count_87 : kf_dq cX11_count 87 88 1 (.ireturn) := ⟨by decide +kernel, rfl⟩
theorem d_X11_count_88 : kf_dq cX11_count 88 89 1 (.aload_n 0) := ⟨by decide +kernel, rfl⟩
theorem d_X11_count_89 : kf_dq cX11_count 89 92 3 (.getfield 19) := ⟨by decide +kernel, rfl⟩
theorem d_X11_count_92 : kf_dq cX11_count 92 95 3 (.getfield 292) := ⟨by decide +kernel, rfl⟩
theorem d_X11_count_95 : kf_dq cX11_count 95 96 1 (.ireturn) := ⟨by decide +kernel, rfl⟩
theorem d_X11_count_96 : kf_dq cX11_count 96 97 1 (.aload_n 0) := ⟨by decide +kernel, rfl⟩
theorem d_X11_count_97 : kf_dq cX11_count 97 100 3 (.getfield 38) := ⟨by decide +kernel, rfl⟩
theorem d_X11_count_100 : kf_dq cX11_count 100 103 3 (.getfield 180) := ⟨by decide +kernel, rfl⟩
theorem d_X11_count_103 : kf_dq cX11_count 103 104 1 (.ireturn) := ⟨by decide +kernel, rfl⟩
theorem d_X11_count_104 : kf_dq cX11_count 104 105 1 (.aload_n 0) := ⟨by decide +kernel, rfl⟩
theorem d_X11_count_105 : kf_dq cX11_count 105 108 3 (.getfield 38) := ⟨by decide +kernel, rfl⟩
theorem d_X11_count_108 : kf_dq cX11_count 108 111 3 (.getfield 177) := ⟨by decide +kernel, rfl⟩
theorem d_X11_count_111 : kf_dq cX11_count 111 112 1 (.ireturn) := ⟨by decide +kernel, rfl⟩
theorem d_X11_count_112 : kf_dq cX11_count 112 113 1 (.aload_n 0) := ⟨by decide +kernel, rfl⟩
theorem d_X11_count_113 : kf_dq cX11_count 113 116 3 (.getfield 10) := ⟨by decide +kernel, rfl⟩
theorem d_X11_count_116 : kf_dq cX11_count 116 119 3 (.getfield 91) := ⟨by decide +kernel, rfl⟩
theorem d_X11_count_119 : kf_dq cX11_count 119 120 1 (.ireturn) := ⟨by decide +kernel, rfl⟩
theorem d_X11_count_120 : kf_dq cX11_count 120 121 1 (.aload_n 0) := ⟨by decide +kernel, rfl⟩
theorem d_X11_count_121 : kf_dq cX11_count 121 124 3 (.getfield 45) := ⟨by decide +kernel, rfl⟩
theorem d_X11_count_124 : kf_dq cX11_count 124 127 3 (.getfield 329) := ⟨by decide +kernel, rfl⟩
theorem d_X11_count_127 : kf_dq cX11_count 127 128 1 (.ireturn) := ⟨by decide +kernel, rfl⟩
theorem d_X11_count_128 : kf_dq cX11_count 128 129 1 (.aload_n 0) := ⟨by decide +kernel, rfl⟩
theorem d_X11_count_129 : kf_dq cX11_count 129 132 3 (.getfield 79) := ⟨by decide +kernel, rfl⟩
theorem d_X11_count_132 : kf_dq cX11_count 132 135 3 (.getfield 110) := ⟨by decide +kernel, rfl⟩
theorem d_X11_count_135 : kf_dq cX11_count 135 136 1 (.ireturn) := ⟨by decide +kernel, rfl⟩
theorem d_X11_count_136 : kf_dq cX11_count 136 137 1 (.aload_n 0) := ⟨by decide +kernel, rfl⟩
theorem d_X11_count_137 : kf_dq cX11_count 137 140 3 (.getfield 45) := ⟨by decide +kernel, rfl⟩
theorem d_X11_count_140 : kf_dq cX11_count 140 143 3 (.getfield 330) := ⟨by decide +kernel, rfl⟩
theorem d_X11_count_143 : kf_dq cX11_count 143 146 3 (.invokestatic 310) := ⟨by decide +kernel, rfl⟩
theorem d_X11_count_146 : kf_dq cX11_count 146 147 1 (.ireturn) := ⟨by decide +kernel, rfl⟩
theorem d_X11_count_147 : kf_dq cX11_count 147 148 1 (.aload_n 0) := ⟨by decide +kernel, rfl⟩
theorem d_X11_count_148 : kf_dq cX11_count 148 151 3 (.getfield 19) := ⟨by decide +kernel, rfl⟩
theorem d_X11_count_151 : kf_dq cX11_count 151 152 1 (.aload_n 0) := ⟨by decide +kernel, rfl⟩
theorem d_X11_count_152 : kf_dq cX11_count 152 155 3 (.getfield 19) := ⟨by decide +kernel, rfl⟩
theorem d_X11_count_155 : kf_dq cX11_count 155 158 3 (.getfield 298) := ⟨by decide +kernel, rfl⟩
theorem d_X11_count_158 : kf_dq cX11_count 158 159 1 (.aload_n 0) := ⟨by decide +kernel, rfl⟩
theorem d_X11_count_159 : kf_dq cX11_count 159 162 3 (.getfield 38) := ⟨by decide +kernel, rfl⟩
theorem d_X11_count_162 : kf_dq cX11_count 162 165 3 (.getfield 180) := ⟨by decide +kernel, rfl⟩
theorem d_X11_count_165 : kf_dq cX11_count 165 168 3 (.invokevirtual 333) := ⟨by decide +kernel, rfl⟩
theorem d_X11_count_168 : kf_dj cX11_count 168 171 175 (.ifCond .eq) := ⟨7, by decide +kernel, rfl, by decide⟩
theorem d_X11_count_171 : kf_dq cX11_count 171 172 1 (.iconst 1) := ⟨by decide +kernel, rfl⟩
theorem d_X11_count_172 : kf_dj cX11_count 172 175 176 .goto := ⟨4, by decide +kernel, rfl, by decide⟩
theorem d_X11_count_175 : kf_dq cX11_count 175 176 1 (.iconst 0) := ⟨by decide +kernel, rfl⟩
theorem d_X11_count_176 : kf_dq cX11_count 176 177 1 (.ireturn) := ⟨by decide +kernel, rfl⟩
theorem d_X11_count_177 : kf_dq cX11_count 177 178 1 (.aload_n 0) := ⟨by decide +kernel, rfl⟩
theorem d_X11_count_178 : kf_dq cX11_count 178 181 3 (.invokevirtual 336) := ⟨by decide +kernel, rfl⟩
theorem d_X11_count_181 : kf_dq cX11_count 181 184 3 (.invokestatic 310) := ⟨by decide +kernel, rfl⟩
theorem d_X11_count_184 : kf_dq cX11_count 184 185 1 (.ireturn) := ⟨by decide +kernel, rfl⟩
theorem d_X11_count_185 : kf_dq cX11_count 185 186 1 (.aload_n 0) := ⟨by decide +kernel, rfl⟩
theorem d_X11_count_186 : kf_dq cX11_count 186 187 1 (.iload_n 1) := ⟨by decide +kernel, rfl⟩
theorem d_X11_count_187 : kf_dq cX11_count 187 190 3 (.invokevirtual 339) := ⟨by decide +kernel, rfl⟩
theorem d_X11_count_190 : kf_dq cX11_count 190 191 1 (.ireturn) := ⟨by decide +kernel, rfl⟩
def f_X11_count_185 (v0 : Nat) (v1 : Int32) (σ : kf_St) : Option (Int32 × kf_St) :=
  (f_X11_countOverDoors v0 v1 σ).bind fun q_1 =>
  some (q_1.1, q_1.2)
set_option maxRecDepth 100000 in
set_option maxHeartbeats 4000000 in
theorem b_X11_count_185 {X : kf_X} {G : kf_G} {q : (Int32 × kf_St)} (E : kf_ok X G cX11_count RX11 2 (some .int) (6)) (hty : kf_wt G) (v0 : Nat) (v1 : Int32) (k_v0 : kf_kd G v0 = 12) (σ : kf_St) (h : f_X11_count_185 v0 v1 σ = some q) : kf_WA X G 2 (kf_Q X G (some (.int q.1)) q.2) 185 [(0, .ref (kf_ad G v0)), (1, .int v1)] [] σ := by
  unfold f_X11_count_185 at h
  refine wa_aload_n 0 rfl E d_X11_count_185 ?_
  refine wa_iload_n 1 rfl E d_X11_count_186 ?_
  obtain ⟨q_1, hq_1, h⟩ := kf_bd h
  refine wa_callV (st2 := [.int q_1.1]) (c_X11_countOverDoors hty v0 v1 k_v0 σ hq_1) mv_X11_countOverDoors ml_X11_339 k_v0 rfl (Nat.le_of_ble_eq_true rfl) rfl (Nat.le_of_ble_eq_true rfl) E d_X11_count_187 rfl ?_
  cases h
  exact wa_iret E d_X11_count_190
def f_X11_count (v0 : Nat) (v1 : Int32) (σ : kf_St) : Option (Int32 × kf_St) :=
  if v1 = 0 then
    some ((σ.1 (kf_rf v0 1) 0), σ)
  else
    if v1 = 1 then
      some ((σ.1 (kf_rf v0 1) 1), σ)
    else
      if v1 = 2 then
        some ((σ.1 (kf_rf v0 1) 2), σ)
      else
        if v1 = 3 then
          some ((σ.1 (kf_rf v0 4) 3), σ)
        else
          if v1 = 7 then
            some ((σ.1 (kf_rf v0 4) 2), σ)
          else
            if v1 = 8 then
              some ((σ.1 (kf_rf v0 0) 0), σ)
            else
              if v1 = 9 then
                some ((σ.1 (kf_rf v0 5) 0), σ)
              else
                if v1 = 10 then
                  some ((σ.1 (kf_rf v0 9) 0), σ)
                else
                  if v1 = 11 then
                    (f_J6_bitCount_0f7a4 (σ.1 (kf_rf v0 5) 1) σ).bind fun q_10 =>
                    some (q_10.1, q_10.2)
                  else
                    if v1 = 12 then
                      (f_X10_hasWind (kf_rf v0 1) (σ.1 (kf_rf v0 1) 5) (σ.1 (kf_rf v0 4) 3) σ).bind fun q_12 =>
                      if q_12.1 = 0 then
                        some (0, q_12.2)
                      else
                        some (1, q_12.2)
                    else
                      if v1 = 13 then
                        (f_X11_callersKnown v0 σ).bind fun q_15 =>
                        (f_J6_bitCount_0f7a4 q_15.1 q_15.2).bind fun q_16 =>
                        some (q_16.1, q_16.2)
                      else
                        f_X11_count_185 v0 v1 σ
set_option maxRecDepth 100000 in
set_option maxHeartbeats 4000000 in
theorem c_X11_count {G : kf_G} (hty : kf_wt G) (v0 : Nat) (v1 : Int32) (k_v0 : kf_kd G v0 = 12) (σ : kf_St) {q : (Int32 × kf_St)} (h : f_X11_count v0 v1 σ = some q) : kf_Ct (6) yX11_count cX11_count 2 (some .int) G [.ref (kf_ad G v0), .int v1] σ (some (.int q.1)) q.2 := by
  refine kf_Ct.of hty.1 (lv := [(0, .ref (kf_ad G v0)), (1, .int v1)]) (by decide +kernel) rfl (Nat.le_of_ble_eq_true rfl) (fun X E => ?_)
  unfold f_X11_count at h
  refine wa_iload_n 1 rfl E d_X11_count_0 ?_
  by_cases c_1 : v1 = 0
  · replace h := kf_ift c_1 h
    refine wa_tabIn (off := 71) (tgt := 72) (by rw [c_1]; decide) (by rw [c_1]; decide) (by rw [c_1]; rfl) (by decide) E d_X11_count_1 ?_
    refine wa_aload_n 0 rfl E d_X11_count_72 ?_
    refine wa_getR fl_X11_19 k_v0 rfl E d_X11_count_73 ?_
    refine wa_getI fl_X11_256 (kf_wtf hty 1 10 k_v0 (by decide) rfl) rfl E d_X11_count_76 ?_
    cases h
    exact wa_iret E d_X11_count_79
  · replace h := kf_iff c_1 h
    by_cases c_2 : v1 = 1
    · replace h := kf_ift c_2 h
      refine wa_tabIn (off := 79) (tgt := 80) (by rw [c_2]; decide) (by rw [c_2]; decide) (by rw [c_2]; rfl) (by decide) E d_X11_count_1 ?_
      refine wa_aload_n 0 rfl E d_X11_count_80 ?_
      refine wa_getR fl_X11_19 k_v0 rfl E d_X11_count_81 ?_
      refine wa_getI fl_X11_241 (kf_wtf hty 1 10 k_v0 (by decide) rfl) rfl E d_X11_count_84 ?_
      cases h
      exact wa_iret E d_X11_count_87
    · replace h := kf_iff c_2 h
      by_cases c_3 : v1 = 2
      · replace h := kf_ift c_3 h
        refine wa_tabIn (off := 87) (tgt := 88) (by rw [c_3]; decide) (by rw [c_3]; decide) (by rw [c_3]; rfl) (by decide) E d_X11_count_1 ?_
        refine wa_aload_n 0 rfl E d_X11_count_88 ?_
        refine wa_getR fl_X11_19 k_v0 rfl E d_X11_count_89 ?_
        refine wa_getI fl_X11_292 (kf_wtf hty 1 10 k_v0 (by decide) rfl) rfl E d_X11_count_92 ?_
        cases h
        exact wa_iret E d_X11_count_95
      · replace h := kf_iff c_3 h
        by_cases c_4 : v1 = 3
        · replace h := kf_ift c_4 h
          refine wa_tabIn (off := 95) (tgt := 96) (by rw [c_4]; decide) (by rw [c_4]; decide) (by rw [c_4]; rfl) (by decide) E d_X11_count_1 ?_
          refine wa_aload_n 0 rfl E d_X11_count_96 ?_
          refine wa_getR fl_X11_38 k_v0 rfl E d_X11_count_97 ?_
          refine wa_getI fl_X11_180 (kf_wtf hty 4 7 k_v0 (by decide) rfl) rfl E d_X11_count_100 ?_
          cases h
          exact wa_iret E d_X11_count_103
        · replace h := kf_iff c_4 h
          by_cases c_5 : v1 = 7
          · replace h := kf_ift c_5 h
            refine wa_tabIn (off := 103) (tgt := 104) (by rw [c_5]; decide) (by rw [c_5]; decide) (by rw [c_5]; rfl) (by decide) E d_X11_count_1 ?_
            refine wa_aload_n 0 rfl E d_X11_count_104 ?_
            refine wa_getR fl_X11_38 k_v0 rfl E d_X11_count_105 ?_
            refine wa_getI fl_X11_177 (kf_wtf hty 4 7 k_v0 (by decide) rfl) rfl E d_X11_count_108 ?_
            cases h
            exact wa_iret E d_X11_count_111
          · replace h := kf_iff c_5 h
            by_cases c_6 : v1 = 8
            · replace h := kf_ift c_6 h
              refine wa_tabIn (off := 111) (tgt := 112) (by rw [c_6]; decide) (by rw [c_6]; decide) (by rw [c_6]; rfl) (by decide) E d_X11_count_1 ?_
              refine wa_aload_n 0 rfl E d_X11_count_112 ?_
              refine wa_getR fl_X11_10 k_v0 rfl E d_X11_count_113 ?_
              refine wa_getI fl_X11_91 (kf_wtf hty 0 8 k_v0 (by decide) rfl) rfl E d_X11_count_116 ?_
              cases h
              exact wa_iret E d_X11_count_119
            · replace h := kf_iff c_6 h
              by_cases c_7 : v1 = 9
              · replace h := kf_ift c_7 h
                refine wa_tabIn (off := 119) (tgt := 120) (by rw [c_7]; decide) (by rw [c_7]; decide) (by rw [c_7]; rfl) (by decide) E d_X11_count_1 ?_
                refine wa_aload_n 0 rfl E d_X11_count_120 ?_
                refine wa_getR fl_X11_45 k_v0 rfl E d_X11_count_121 ?_
                refine wa_getI fl_X11_329 (kf_wtf hty 5 3 k_v0 (by decide) rfl) rfl E d_X11_count_124 ?_
                cases h
                exact wa_iret E d_X11_count_127
              · replace h := kf_iff c_7 h
                by_cases c_8 : v1 = 10
                · replace h := kf_ift c_8 h
                  refine wa_tabIn (off := 127) (tgt := 128) (by rw [c_8]; decide) (by rw [c_8]; decide) (by rw [c_8]; rfl) (by decide) E d_X11_count_1 ?_
                  refine wa_aload_n 0 rfl E d_X11_count_128 ?_
                  refine wa_getR fl_X11_79 k_v0 rfl E d_X11_count_129 ?_
                  refine wa_getI fl_X11_110 (kf_wtf hty 9 9 k_v0 (by decide) rfl) rfl E d_X11_count_132 ?_
                  cases h
                  exact wa_iret E d_X11_count_135
                · replace h := kf_iff c_8 h
                  by_cases c_9 : v1 = 11
                  · replace h := kf_ift c_9 h
                    refine wa_tabIn (off := 135) (tgt := 136) (by rw [c_9]; decide) (by rw [c_9]; decide) (by rw [c_9]; rfl) (by decide) E d_X11_count_1 ?_
                    refine wa_aload_n 0 rfl E d_X11_count_136 ?_
                    refine wa_getR fl_X11_45 k_v0 rfl E d_X11_count_137 ?_
                    refine wa_getI fl_X11_330 (kf_wtf hty 5 3 k_v0 (by decide) rfl) rfl E d_X11_count_140 ?_
                    obtain ⟨q_10, hq_10, h⟩ := kf_bd h
                    refine wa_callS (st2 := [.int q_10.1]) (c_J6_bitCount_0f7a4 hty (σ.1 (kf_rf v0 5) 1) σ hq_10) mt_J6_bitCount_0f7a4 ml_X11_310 rfl (Nat.le_of_ble_eq_true rfl) rfl (Nat.le_of_ble_eq_true rfl) E d_X11_count_143 rfl ?_
                    cases h
                    exact wa_iret E d_X11_count_146
                  · replace h := kf_iff c_9 h
                    by_cases c_11 : v1 = 12
                    · replace h := kf_ift c_11 h
                      refine wa_tabIn (off := 146) (tgt := 147) (by rw [c_11]; decide) (by rw [c_11]; decide) (by rw [c_11]; rfl) (by decide) E d_X11_count_1 ?_
                      refine wa_aload_n 0 rfl E d_X11_count_147 ?_
                      refine wa_getR fl_X11_19 k_v0 rfl E d_X11_count_148 ?_
                      refine wa_aload_n 0 rfl E d_X11_count_151 ?_
                      refine wa_getR fl_X11_19 k_v0 rfl E d_X11_count_152 ?_
                      refine wa_getI fl_X11_298 (kf_wtf hty 1 10 k_v0 (by decide) rfl) rfl E d_X11_count_155 ?_
                      refine wa_aload_n 0 rfl E d_X11_count_158 ?_
                      refine wa_getR fl_X11_38 k_v0 rfl E d_X11_count_159 ?_
                      refine wa_getI fl_X11_180 (kf_wtf hty 4 7 k_v0 (by decide) rfl) rfl E d_X11_count_162 ?_
                      obtain ⟨q_12, hq_12, h⟩ := kf_bd h
                      refine wa_callV (st2 := [.int q_12.1]) (c_X10_hasWind hty (kf_rf v0 1) (σ.1 (kf_rf v0 1) 5) (σ.1 (kf_rf v0 4) 3) (kf_wtf hty 1 10 k_v0 (by decide) rfl) σ hq_12) mv_X10_hasWind ml_X11_333 (kf_wtf hty 1 10 k_v0 (by decide) rfl) rfl (Nat.le_of_ble_eq_true rfl) rfl (Nat.le_of_ble_eq_true rfl) E d_X11_count_165 rfl ?_
                      refine wa_if_eq E d_X11_count_168 (fun c_13 => ?_) (fun c_13 => ?_)
                      · replace h := kf_ift c_13 h
                        refine wa_iconst 0 ic_0 E d_X11_count_175 ?_
                        cases h
                        exact wa_iret E d_X11_count_176
                      · replace h := kf_iff c_13 h
                        refine wa_iconst 1 ic_1 E d_X11_count_171 ?_
                        refine wa_goto E d_X11_count_172 ?_
                        cases h
                        exact wa_iret E d_X11_count_176
                    · replace h := kf_iff c_11 h
                      by_cases c_14 : v1 = 13
                      · replace h := kf_ift c_14 h
                        refine wa_tabIn (off := 176) (tgt := 177) (by rw [c_14]; decide) (by rw [c_14]; decide) (by rw [c_14]; rfl) (by decide) E d_X11_count_1 ?_
                        refine wa_aload_n 0 rfl E d_X11_count_177 ?_
                        obtain ⟨q_15, hq_15, h⟩ := kf_bd h
                        refine wa_callV (st2 := [.int q_15.1]) (c_X11_callersKnown hty v0 k_v0 σ hq_15) mv_X11_callersKnown ml_X11_336 k_v0 rfl (Nat.le_of_ble_eq_true rfl) rfl (Nat.le_of_ble_eq_true rfl) E d_X11_count_178 rfl ?_
                        obtain ⟨q_16, hq_16, h⟩ := kf_bd h
                        refine wa_callS (st2 := [.int q_16.1]) (c_J6_bitCount_0f7a4 hty q_15.1 q_15.2 hq_16) mt_J6_bitCount_0f7a4 ml_X11_310 rfl (Nat.le_of_ble_eq_true rfl) rfl (Nat.le_of_ble_eq_true rfl) E d_X11_count_181 rfl ?_
                        cases h
                        exact wa_iret E d_X11_count_184
                      · replace h := kf_iff c_14 h
                        by_cases c_17 : v1 = 4
                        · refine wa_tabIn (off := 184) (tgt := 185) (by rw [c_17]; decide) (by rw [c_17]; decide) (by rw [c_17]; rfl) (by decide) E d_X11_count_1 ?_
                          exact b_X11_count_185 E hty v0 v1 k_v0 σ h
                        by_cases c_18 : v1 = 5
                        · refine wa_tabIn (off := 184) (tgt := 185) (by rw [c_18]; decide) (by rw [c_18]; decide) (by rw [c_18]; rfl) (by decide) E d_X11_count_1 ?_
                          exact b_X11_count_185 E hty v0 v1 k_v0 σ h
                        by_cases c_19 : v1 = 6
                        · refine wa_tabIn (off := 184) (tgt := 185) (by rw [c_19]; decide) (by rw [c_19]; decide) (by rw [c_19]; rfl) (by decide) E d_X11_count_1 ?_
                          exact b_X11_count_185 E hty v0 v1 k_v0 σ h
                        refine wa_tabOut (tgt := 185) (kf_out [0, 1, 2, 3, 7, 8, 9, 10, 11, 12, 13, 4, 5, 6] (by decide +kernel) (List.forall_mem_cons.mpr ⟨c_1, List.forall_mem_cons.mpr ⟨c_2, List.forall_mem_cons.mpr ⟨c_3, List.forall_mem_cons.mpr ⟨c_4, List.forall_mem_cons.mpr ⟨c_5, List.forall_mem_cons.mpr ⟨c_6, List.forall_mem_cons.mpr ⟨c_7, List.forall_mem_cons.mpr ⟨c_8, List.forall_mem_cons.mpr ⟨c_9, List.forall_mem_cons.mpr ⟨c_11, List.forall_mem_cons.mpr ⟨c_14, List.forall_mem_cons.mpr ⟨c_17, List.forall_mem_cons.mpr ⟨c_18, List.forall_mem_cons.mpr ⟨c_19, fun _ h => absurd h List.not_mem_nil⟩⟩⟩⟩⟩⟩⟩⟩⟩⟩⟩⟩⟩⟩)) (by decide) E d_X11_count_1 ?_
                        exact b_X11_count_185 E hty v0 v1 k_v0 σ h
/-! X12_plain -/
theorem d_X12_plain_0 : kf_dq cX12_plain 0 1 1 (.aload_n 0) := ⟨by decide +kernel, rfl⟩
theorem d_X12_plain_1 : kf_dq cX12_plain 1 4 3 (.getfield 46) := ⟨by decide +kernel, rfl⟩
theorem d_X12_plain_4 : kf_dq cX12_plain 4 5 1 (.iload_n 1) := ⟨by decide +kernel, rfl⟩
theorem d_X12_plain_5 : kf_dq cX12_plain 5 6 1 (.iconst 0) := ⟨by decide +kernel, rfl⟩
theorem d_X12_plain_6 : kf_dq cX12_plain 6 7 1 (.iastore) := ⟨by decide +kernel, rfl⟩
theorem d_X12_plain_7 : kf_dq cX12_plain 7 8 1 (.aload_n 0) := ⟨by decide +kernel, rfl⟩
theorem d_X12_plain_8 : kf_dq cX12_plain 8 11 3 (.getfield 52) := ⟨by decide +kernel, rfl⟩
theorem d_X12_plain_11 : kf_dq cX12_plain 11 12 1 (.iload_n 1) := ⟨by decide +kernel, rfl⟩
theorem d_X12_plain_12 : kf_dq cX12_plain 12 13 1 (.iconst 0) := ⟨by decide +kernel, rfl⟩
theorem d_X12_plain_13 : kf_dq cX12_plain 13 14 1 (.iastore) := ⟨by decide +kernel, rfl⟩
theorem d_X12_plain_14 : kf_dq cX12_plain 14 15 1 (.aload_n 0) := ⟨by decide +kernel, rfl⟩
theorem d_X12_plain_15 : kf_dq cX12_plain 15 18 3 (.getfield 58) := ⟨by decide +kernel, rfl⟩
theorem d_X12_plain_18 : kf_dq cX12_plain 18 19 1 (.iload_n 1) := ⟨by decide +kernel, rfl⟩
theorem d_X12_plain_19 : kf_dq cX12_plain 19 20 1 (.iconst 0) := ⟨by decide +kernel, rfl⟩
theorem d_X12_plain_20 : kf_dq cX12_plain 20 21 1 (.iastore) := ⟨by decide +kernel, rfl⟩
theorem d_X12_plain_21 : kf_dq cX12_plain 21 22 1 (.aload_n 0) := ⟨by decide +kernel, rfl⟩
theorem d_X12_plain_22 : kf_dq cX12_plain 22 25 3 (.getfield 73) := ⟨by decide +kernel, rfl⟩
theorem d_X12_plain_25 : kf_dq cX12_plain 25 26 1 (.iload_n 1) := ⟨by decide +kernel, rfl⟩
theorem d_X12_plain_26 : kf_dq cX12_plain 26 27 1 (.iconst 0) := ⟨by decide +kernel, rfl⟩
theorem d_X12_plain_27 : kf_dq cX12_plain 27 28 1 (.iastore) := ⟨by decide +kernel, rfl⟩
theorem d_X12_plain_28 : kf_dq cX12_plain 28 29 1 (.aload_n 0) := ⟨by decide +kernel, rfl⟩
theorem d_X12_plain_29 : kf_dq cX12_plain 29 32 3 (.getfield 76) := ⟨by decide +kernel, rfl⟩
theorem d_X12_plain_32 : kf_dq cX12_plain 32 33 1 (.iload_n 1) := ⟨by decide +kernel, rfl⟩
theorem d_X12_plain_33 : kf_dq cX12_plain 33 35 2 (.bipush 40) := ⟨by decide +kernel, rfl⟩
theorem d_X12_plain_35 : kf_dq cX12_plain 35 36 1 (.iastore) := ⟨by decide +kernel, rfl⟩
theorem d_X12_plain_36 : kf_dq cX12_plain 36 37 1 (.aload_n 0) := ⟨by decide +kernel, rfl⟩
theorem d_X12_plain_37 : kf_dq cX12_plain 37 40 3 (.getfield 79) := ⟨by decide +kernel, rfl⟩
theorem d_X12_plain_40 : kf_dq cX12_plain 40 41 1 (.iload_n 1) := ⟨by decide +kernel, rfl⟩
theorem d_X12_plain_41 : kf_dq cX12_plain 41 42 1 (.iconst 0) := ⟨by decide +kernel, rfl⟩
theorem d_X12_plain_42 : kf_dq cX12_plain 42 43 1 (.iastore) := ⟨by decide +kernel, rfl⟩
theorem d_X12_plain_43 : kf_dq cX12_plain 43 44 1 (.iconst 0) := ⟨by decide +kernel, rfl⟩
theorem d_X12_plain_44 : kf_dq cX12_plain 44 45 1 (.istore_n 2) := ⟨by decide +kernel, rfl⟩
theorem d_X12_plain_45 : kf_dq cX12_plain 45 46 1 (.iload_n 2) := ⟨by decide +kernel, rfl⟩
theorem d_X12_plain_46 : kf_dq cX12_plain 46 47 1 (.iconst 3) := ⟨by decide +kernel, rfl⟩
theorem d_X12_plain_47 : kf_dj cX12_plain 47 50 78 (.if_icmp .ge) := ⟨31, by decide +kernel, rfl, by decide⟩
theorem d_X12_plain_50 : kf_dq cX12_plain 50 51 1 (.aload_n 0) := ⟨by decide +kernel, rfl⟩
theorem d_X12_plain_51 : kf_dq cX12_plain 51 54 3 (.getfield 82) := ⟨by decide +kernel, rfl⟩
theorem d_X12_plain_54 : kf_dq cX12_plain 54 55 1 (.iconst 3) := ⟨by decide +kernel, rfl⟩
theorem d_X12_plain_55 : kf_dq cX12_plain 55 56 1 (.iload_n 1) := ⟨by decide +kernel, rfl⟩
theorem d_X12_plain_56 : kf_dq cX12_plain 56 57 1 (.imul) := ⟨by decide +kernel, rfl⟩
theorem d_X12_plain_57 : kf_dq cX12_plain 57 58 1 (.iload_n 2) := ⟨by decide +kernel, rfl⟩
theorem d_X12_plain_58 : kf_dq cX12_plain 58 59 1 (.iadd) := ⟨by decide +kernel, rfl⟩
theorem d_X12_plain_59 : kf_dq cX12_plain 59 60 1 (.iconst 0) := ⟨by decide +kernel, rfl⟩
theorem d_X12_plain_60 : kf_dq cX12_plain 60 61 1 (.iastore) := ⟨by decide +kernel, rfl⟩
theorem d_X12_plain_61 : kf_dq cX12_plain 61 62 1 (.aload_n 0) := ⟨by decide +kernel, rfl⟩
theorem d_X12_plain_62 : kf_dq cX12_plain 62 65 3 (.getfield 85) := ⟨by decide +kernel, rfl⟩
theorem d_X12_plain_65 : kf_dq cX12_plain 65 66 1 (.iconst 3) := ⟨by decide +kernel, rfl⟩
theorem d_X12_plain_66 : kf_dq cX12_plain 66 67 1 (.iload_n 1) := ⟨by decide +kernel, rfl⟩
theorem d_X12_plain_67 : kf_dq cX12_plain 67 68 1 (.imul) := ⟨by decide +kernel, rfl⟩
theorem d_X12_plain_68 : kf_dq cX12_plain 68 69 1 (.iload_n 2) := ⟨by decide +kernel, rfl⟩
theorem d_X12_plain_69 : kf_dq cX12_plain 69 70 1 (.iadd) := ⟨by decide +kernel, rfl⟩
theorem d_X12_plain_70 : kf_dq cX12_plain 70 71 1 (.iconst 0) := ⟨by decide +kernel, rfl⟩
theorem d_X12_plain_71 : kf_dq cX12_plain 71 72 1 (.iastore) := ⟨by decide +kernel, rfl⟩
theorem d_X12_plain_72 : kf_dq cX12_plain 72 75 3 (.iinc 2 1) := ⟨by decide +kernel, rfl⟩
theorem d_X12_plain_75 : kf_dj cX12_plain 75 78 45 .goto := ⟨(-30), by decide +kernel, rfl, by decide⟩
theorem d_X12_plain_78 : kf_dq cX12_plain 78 79 1 (.return_) := ⟨by decide +kernel, rfl⟩
def f_X12_plain_45_s (rec45 : Nat → Int32 → Int32 → kf_St → Option kf_St) (v0 : Nat) (v1 : Int32) (v2 : Int32) (σ : kf_St) : Option kf_St :=
  if 3 ≤ v2 then
    some σ
  else
    if kf_ix ((3 * v1) + v2) (kf_ln (kf_rf v0 35)) = true then
    kf_lt (kf_wi σ (kf_rf v0 35) (Int32.toNatClampNeg ((3 * v1) + v2)) 0) fun σ_3 =>
    if kf_ix ((3 * v1) + v2) (kf_ln (kf_rf v0 36)) = true then
    kf_lt (kf_wi σ_3 (kf_rf v0 36) (Int32.toNatClampNeg ((3 * v1) + v2)) 0) fun σ_5 =>
    kf_lt (v2 + 1) fun v2_6 =>
    rec45 v0 v1 v2_6 σ_5
    else none
    else none
def f_X12_plain_45 : Nat → Nat → Int32 → Int32 → kf_St → Option kf_St
  | 0, _, _, _, _ => none
  | n + 1, v0, v1, v2, σ => f_X12_plain_45_s (f_X12_plain_45 n) v0 v1 v2 σ
set_option maxRecDepth 100000 in
set_option maxHeartbeats 4000000 in
theorem b_X12_plain_45_s {X : kf_X} {G : kf_G} (rec45 : Nat → Int32 → Int32 → kf_St → Option kf_St) {q : kf_St} (E : kf_ok X G cX12_plain RX12 3 none (1)) (hty : kf_wt G) (hrec45 : ∀ (v0 : Nat) (v1 : Int32) (v2 : Int32) (k_v0 : kf_kd G v0 = 13) (σ : kf_St), rec45 v0 v1 v2 σ = some q → kf_WA X G 3 (kf_Q X G none q) 45 [(0, .ref (kf_ad G v0)), (1, .int v1), (2, .int v2)] [] σ) (v0 : Nat) (v1 : Int32) (v2 : Int32) (k_v0 : kf_kd G v0 = 13) (σ : kf_St) (h : f_X12_plain_45_s rec45 v0 v1 v2 σ = some q) : kf_WA X G 3 (kf_Q X G none q) 45 [(0, .ref (kf_ad G v0)), (1, .int v1), (2, .int v2)] [] σ := by
  unfold f_X12_plain_45_s at h
  refine wa_iload_n 2 rfl E d_X12_plain_45 ?_
  refine wa_iconst 3 ic_3 E d_X12_plain_46 ?_
  refine wa_icmp_ge E d_X12_plain_47 (fun c_1 => ?_) (fun c_1 => ?_)
  · replace h := kf_ift c_1 h
    cases h
    exact wa_vret E d_X12_plain_78
  · replace h := kf_iff c_1 h
    refine wa_aload_n 0 rfl E d_X12_plain_50 ?_
    refine wa_getR fl_X12_82 k_v0 rfl E d_X12_plain_51 ?_
    refine wa_iconst 3 ic_3 E d_X12_plain_54 ?_
    refine wa_iload_n 1 rfl E d_X12_plain_55 ?_
    refine wa_imul E d_X12_plain_56 ?_
    refine wa_iload_n 2 rfl E d_X12_plain_57 ?_
    refine wa_iadd E d_X12_plain_58 ?_
    refine wa_iconst 0 ic_0 E d_X12_plain_59 ?_
    obtain ⟨g_2, h⟩ := kf_gd h
    obtain ⟨σ_3, eσ_3, h⟩ := kf_lte h
    refine wa_iast (kf_wtf hty 35 49 k_v0 (by decide) rfl) g_2 E d_X12_plain_60 eσ_3 ?_
    refine wa_aload_n 0 rfl E d_X12_plain_61 ?_
    refine wa_getR fl_X12_85 k_v0 rfl E d_X12_plain_62 ?_
    refine wa_iconst 3 ic_3 E d_X12_plain_65 ?_
    refine wa_iload_n 1 rfl E d_X12_plain_66 ?_
    refine wa_imul E d_X12_plain_67 ?_
    refine wa_iload_n 2 rfl E d_X12_plain_68 ?_
    refine wa_iadd E d_X12_plain_69 ?_
    refine wa_iconst 0 ic_0 E d_X12_plain_70 ?_
    obtain ⟨g_4, h⟩ := kf_gd h
    obtain ⟨σ_5, eσ_5, h⟩ := kf_lte h
    refine wa_iast (kf_wtf hty 36 49 k_v0 (by decide) rfl) g_4 E d_X12_plain_71 eσ_5 ?_
    obtain ⟨v2_6, ev2_6, h⟩ := kf_lte h
    refine wa_iinc (lv' := [(2, .int v2_6), (0, .ref (kf_ad G v0)), (1, .int v1)]) v2_6 2 rfl (kf_inc ic_1 ev2_6) (by decide) rfl E d_X12_plain_72 ?_
    refine wa_goto E d_X12_plain_75 ?_
    refine wa_sub [1, 2, 0] rfl ?_
    exact hrec45 v0 v1 v2_6 k_v0 σ_5 h
theorem b_X12_plain_45 {X : kf_X} {G : kf_G} {q : kf_St} (E : kf_ok X G cX12_plain RX12 3 none (1)) (hty : kf_wt G) : ∀ (N : Nat) (v0 : Nat) (v1 : Int32) (v2 : Int32) (k_v0 : kf_kd G v0 = 13) (σ : kf_St) (_ : f_X12_plain_45 N v0 v1 v2 σ = some q), kf_WA X G 3 (kf_Q X G none q) 45 [(0, .ref (kf_ad G v0)), (1, .int v1), (2, .int v2)] [] σ
  | 0, _, _, _, _, _, h => by cases h
  | N + 1, v0, v1, v2, k_v0, σ, h => b_X12_plain_45_s _ E hty (b_X12_plain_45 E hty N) v0 v1 v2 k_v0 σ h
def f_X12_plain (v0 : Nat) (v1 : Int32) (σ : kf_St) : Option kf_St :=
  if kf_ix v1 (kf_ln (kf_rf v0 23)) = true then
  kf_lt (kf_wi σ (kf_rf v0 23) (Int32.toNatClampNeg v1) 0) fun σ_2 =>
  if kf_ix v1 (kf_ln (kf_rf v0 25)) = true then
  kf_lt (kf_wi σ_2 (kf_rf v0 25) (Int32.toNatClampNeg v1) 0) fun σ_4 =>
  if kf_ix v1 (kf_ln (kf_rf v0 27)) = true then
  kf_lt (kf_wi σ_4 (kf_rf v0 27) (Int32.toNatClampNeg v1) 0) fun σ_6 =>
  if kf_ix v1 (kf_ln (kf_rf v0 32)) = true then
  kf_lt (kf_wi σ_6 (kf_rf v0 32) (Int32.toNatClampNeg v1) 0) fun σ_8 =>
  if kf_ix v1 (kf_ln (kf_rf v0 33)) = true then
  kf_lt (kf_wi σ_8 (kf_rf v0 33) (Int32.toNatClampNeg v1) 40) fun σ_10 =>
  if kf_ix v1 (kf_ln (kf_rf v0 34)) = true then
  kf_lt (kf_wi σ_10 (kf_rf v0 34) (Int32.toNatClampNeg v1) 0) fun σ_12 =>
  f_X12_plain_45 kf_F v0 v1 0 σ_12
  else none
  else none
  else none
  else none
  else none
  else none
set_option maxRecDepth 100000 in
set_option maxHeartbeats 4000000 in
theorem c_X12_plain {G : kf_G} (hty : kf_wt G) (v0 : Nat) (v1 : Int32) (k_v0 : kf_kd G v0 = 13) (σ : kf_St) {q : kf_St} (h : f_X12_plain v0 v1 σ = some q) : kf_Ct (1) yX12_plain cX12_plain 3 none G [.ref (kf_ad G v0), .int v1] σ none q := by
  refine kf_Ct.of hty.1 (lv := [(0, .ref (kf_ad G v0)), (1, .int v1)]) (by decide +kernel) rfl (Nat.le_of_ble_eq_true rfl) (fun X E => ?_)
  unfold f_X12_plain at h
  refine wa_aload_n 0 rfl E d_X12_plain_0 ?_
  refine wa_getR fl_X12_46 k_v0 rfl E d_X12_plain_1 ?_
  refine wa_iload_n 1 rfl E d_X12_plain_4 ?_
  refine wa_iconst 0 ic_0 E d_X12_plain_5 ?_
  obtain ⟨g_1, h⟩ := kf_gd h
  obtain ⟨σ_2, eσ_2, h⟩ := kf_lte h
  refine wa_iast (kf_wtf hty 23 49 k_v0 (by decide) rfl) g_1 E d_X12_plain_6 eσ_2 ?_
  refine wa_aload_n 0 rfl E d_X12_plain_7 ?_
  refine wa_getR fl_X12_52 k_v0 rfl E d_X12_plain_8 ?_
  refine wa_iload_n 1 rfl E d_X12_plain_11 ?_
  refine wa_iconst 0 ic_0 E d_X12_plain_12 ?_
  obtain ⟨g_3, h⟩ := kf_gd h
  obtain ⟨σ_4, eσ_4, h⟩ := kf_lte h
  refine wa_iast (kf_wtf hty 25 49 k_v0 (by decide) rfl) g_3 E d_X12_plain_13 eσ_4 ?_
  refine wa_aload_n 0 rfl E d_X12_plain_14 ?_
  refine wa_getR fl_X12_58 k_v0 rfl E d_X12_plain_15 ?_
  refine wa_iload_n 1 rfl E d_X12_plain_18 ?_
  refine wa_iconst 0 ic_0 E d_X12_plain_19 ?_
  obtain ⟨g_5, h⟩ := kf_gd h
  obtain ⟨σ_6, eσ_6, h⟩ := kf_lte h
  refine wa_iast (kf_wtf hty 27 49 k_v0 (by decide) rfl) g_5 E d_X12_plain_20 eσ_6 ?_
  refine wa_aload_n 0 rfl E d_X12_plain_21 ?_
  refine wa_getR fl_X12_73 k_v0 rfl E d_X12_plain_22 ?_
  refine wa_iload_n 1 rfl E d_X12_plain_25 ?_
  refine wa_iconst 0 ic_0 E d_X12_plain_26 ?_
  obtain ⟨g_7, h⟩ := kf_gd h
  obtain ⟨σ_8, eσ_8, h⟩ := kf_lte h
  refine wa_iast (kf_wtf hty 32 49 k_v0 (by decide) rfl) g_7 E d_X12_plain_27 eσ_8 ?_
  refine wa_aload_n 0 rfl E d_X12_plain_28 ?_
  refine wa_getR fl_X12_76 k_v0 rfl E d_X12_plain_29 ?_
  refine wa_iload_n 1 rfl E d_X12_plain_32 ?_
  refine wa_bipush 40 bp_40 E d_X12_plain_33 ?_
  obtain ⟨g_9, h⟩ := kf_gd h
  obtain ⟨σ_10, eσ_10, h⟩ := kf_lte h
  refine wa_iast (kf_wtf hty 33 49 k_v0 (by decide) rfl) g_9 E d_X12_plain_35 eσ_10 ?_
  refine wa_aload_n 0 rfl E d_X12_plain_36 ?_
  refine wa_getR fl_X12_79 k_v0 rfl E d_X12_plain_37 ?_
  refine wa_iload_n 1 rfl E d_X12_plain_40 ?_
  refine wa_iconst 0 ic_0 E d_X12_plain_41 ?_
  obtain ⟨g_11, h⟩ := kf_gd h
  obtain ⟨σ_12, eσ_12, h⟩ := kf_lte h
  refine wa_iast (kf_wtf hty 34 49 k_v0 (by decide) rfl) g_11 E d_X12_plain_42 eσ_12 ?_
  refine wa_iconst 0 ic_0 E d_X12_plain_43 ?_
  refine wa_istore_n (lv' := [(2, .int 0), (0, .ref (kf_ad G v0)), (1, .int v1)]) rfl (by decide) rfl E d_X12_plain_44 ?_
  refine wa_sub [1, 2, 0] rfl ?_
  exact b_X12_plain_45 E hty kf_F v0 v1 0 k_v0 σ_12 h
/-! X12_appends -/
theorem d_X12_appends_0 : kf_dq cX12_appends 0 1 1 (.iload_n 2) := ⟨by decide +kernel, rfl⟩
theorem d_X12_appends_1 : kf_dj cX12_appends 1 4 8 (.ifCond .ne) := ⟨7, by decide +kernel, rfl, by decide⟩
theorem d_X12_appends_4 : kf_dq cX12_appends 4 5 1 (.lload_n 0) := ⟨by decide +kernel, rfl⟩
theorem d_X12_appends_5 : kf_dj cX12_appends 5 8 21 .goto := ⟨16, by decide +kernel, rfl, by decide⟩
theorem d_X12_appends_8 : kf_dq cX12_appends 8 11 3 (.ldc2_w 175) := ⟨by decide +kernel, rfl⟩
theorem d_X12_appends_11 : kf_dq cX12_appends 11 12 1 (.lload_n 0) := ⟨by decide +kernel, rfl⟩
theorem d_X12_appends_12 : kf_dq cX12_appends 12 13 1 (.lmul) := ⟨by decide +kernel, rfl⟩
theorem d_X12_appends_13 : kf_dq cX12_appends 13 14 1 (.iload_n 2) := ⟨by decide +kernel, rfl⟩
theorem d_X12_appends_14 : kf_dq cX12_appends 14 16 2 (.bipush 97) := ⟨by decide +kernel, rfl⟩
theorem d_X12_appends_16 : kf_dq cX12_appends 16 17 1 (.isub) := ⟨by decide +kernel, rfl⟩
theorem d_X12_appends_17 : kf_dq cX12_appends 17 18 1 (.iconst 1) := ⟨by decide +kernel, rfl⟩
theorem d_X12_appends_18 : kf_dq cX12_appends 18 19 1 (.iadd) := ⟨by decide +kernel, rfl⟩
theorem d_X12_appends_19 : kf_dq cX12_appends 19 20 1 (.i2l) := ⟨by decide +kernel, rfl⟩
theorem d_X12_appends_20 : kf_dq cX12_appends 20 21 1 (.ladd) := ⟨by decide +kernel, rfl⟩
theorem d_X12_appends_21 : kf_dq cX12_appends 21 22 1 (.lreturn) := ⟨by decide +kernel, rfl⟩
def f_X12_appends (v0 : Int64) (v2 : Int32) (σ : kf_St) : Option (Int64 × kf_St) :=
  if v2 = 0 then
    some (v0, σ)
  else
    some ((((27 : Int64) * v0) + (Int32.toInt64 ((v2 - 97) + 1))), σ)
set_option maxRecDepth 100000 in
set_option maxHeartbeats 4000000 in
theorem c_X12_appends {G : kf_G} (hty : kf_wt G) (v0 : Int64) (v2 : Int32) (σ : kf_St) {q : (Int64 × kf_St)} (h : f_X12_appends v0 v2 σ = some q) : kf_Ct (1) yX12_appends cX12_appends 3 (some .long) G [.long v0, .int v2] σ (some (.long q.1)) q.2 := by
  refine kf_Ct.of hty.1 (lv := [(0, .long v0), (2, .int v2)]) (by decide +kernel) rfl (Nat.le_of_ble_eq_true rfl) (fun X E => ?_)
  unfold f_X12_appends at h
  refine wa_iload_n 1 rfl E d_X12_appends_0 ?_
  refine wa_if_ne E d_X12_appends_1 (fun c_1 => ?_) (fun c_1 => ?_)
  · replace h := kf_iff c_1 h
    refine wa_ldc2 cstl_X12_175 E d_X12_appends_8 ?_
    refine wa_lload_n 0 rfl E d_X12_appends_11 ?_
    refine wa_lmul E d_X12_appends_12 ?_
    refine wa_iload_n 1 rfl E d_X12_appends_13 ?_
    refine wa_bipush 97 bp_97 E d_X12_appends_14 ?_
    refine wa_isub E d_X12_appends_16 ?_
    refine wa_iconst 1 ic_1 E d_X12_appends_17 ?_
    refine wa_iadd E d_X12_appends_18 ?_
    refine wa_i2l E d_X12_appends_19 ?_
    refine wa_ladd E d_X12_appends_20 ?_
    cases h
    exact wa_lret E d_X12_appends_21
  · replace h := kf_ift c_1 h
    refine wa_lload_n 0 rfl E d_X12_appends_4 ?_
    refine wa_goto E d_X12_appends_5 ?_
    cases h
    exact wa_lret E d_X12_appends_21
/-! X12_word -/
theorem d_X12_word_0 : kf_dq cX12_word 0 1 1 (.lconst 0) := ⟨by decide +kernel, rfl⟩
theorem d_X12_word_1 : kf_dq cX12_word 1 2 1 (.iload_n 0) := ⟨by decide +kernel, rfl⟩
theorem d_X12_word_2 : kf_dq cX12_word 2 5 3 (.invokestatic 177) := ⟨by decide +kernel, rfl⟩
theorem d_X12_word_5 : kf_dq cX12_word 5 6 1 (.iload_n 1) := ⟨by decide +kernel, rfl⟩
theorem d_X12_word_6 : kf_dq cX12_word 6 9 3 (.invokestatic 177) := ⟨by decide +kernel, rfl⟩
theorem d_X12_word_9 : kf_dq cX12_word 9 10 1 (.iload_n 2) := ⟨by decide +kernel, rfl⟩
theorem d_X12_word_10 : kf_dq cX12_word 10 13 3 (.invokestatic 177) := ⟨by decide +kernel, rfl⟩
theorem d_X12_word_13 : kf_dq cX12_word 13 14 1 (.iload_n 3) := ⟨by decide +kernel, rfl⟩
theorem d_X12_word_14 : kf_dq cX12_word 14 17 3 (.invokestatic 177) := ⟨by decide +kernel, rfl⟩
theorem d_X12_word_17 : kf_dq cX12_word 17 19 2 (.iload 4) := ⟨by decide +kernel, rfl⟩
theorem d_X12_word_19 : kf_dq cX12_word 19 22 3 (.invokestatic 177) := ⟨by decide +kernel, rfl⟩
theorem d_X12_word_22 : kf_dq cX12_word 22 24 2 (.iload 5) := ⟨by decide +kernel, rfl⟩
theorem d_X12_word_24 : kf_dq cX12_word 24 27 3 (.invokestatic 177) := ⟨by decide +kernel, rfl⟩
theorem d_X12_word_27 : kf_dq cX12_word 27 29 2 (.iload 6) := ⟨by decide +kernel, rfl⟩
theorem d_X12_word_29 : kf_dq cX12_word 29 32 3 (.invokestatic 177) := ⟨by decide +kernel, rfl⟩
theorem d_X12_word_32 : kf_dq cX12_word 32 33 1 (.lreturn) := ⟨by decide +kernel, rfl⟩
def f_X12_word (v0 : Int32) (v1 : Int32) (v2 : Int32) (v3 : Int32) (v4 : Int32) (v5 : Int32) (v6 : Int32) (σ : kf_St) : Option (Int64 × kf_St) :=
  (f_X12_appends (0 : Int64) v0 σ).bind fun q_1 =>
  (f_X12_appends q_1.1 v1 q_1.2).bind fun q_2 =>
  (f_X12_appends q_2.1 v2 q_2.2).bind fun q_3 =>
  (f_X12_appends q_3.1 v3 q_3.2).bind fun q_4 =>
  (f_X12_appends q_4.1 v4 q_4.2).bind fun q_5 =>
  (f_X12_appends q_5.1 v5 q_5.2).bind fun q_6 =>
  (f_X12_appends q_6.1 v6 q_6.2).bind fun q_7 =>
  some (q_7.1, q_7.2)
set_option maxRecDepth 100000 in
set_option maxHeartbeats 4000000 in
theorem c_X12_word {G : kf_G} (hty : kf_wt G) (v0 : Int32) (v1 : Int32) (v2 : Int32) (v3 : Int32) (v4 : Int32) (v5 : Int32) (v6 : Int32) (σ : kf_St) {q : (Int64 × kf_St)} (h : f_X12_word v0 v1 v2 v3 v4 v5 v6 σ = some q) : kf_Ct (2) yX12_word cX12_word 7 (some .long) G [.int v0, .int v1, .int v2, .int v3, .int v4, .int v5, .int v6] σ (some (.long q.1)) q.2 := by
  refine kf_Ct.of hty.1 (lv := [(0, .int v0), (1, .int v1), (2, .int v2), (3, .int v3), (4, .int v4), (5, .int v5), (6, .int v6)]) (by decide +kernel) rfl (Nat.le_of_ble_eq_true rfl) (fun X E => ?_)
  unfold f_X12_word at h
  refine wa_lconst 0 lc_0 E d_X12_word_0 ?_
  refine wa_iload_n 0 rfl E d_X12_word_1 ?_
  obtain ⟨q_1, hq_1, h⟩ := kf_bd h
  refine wa_callS (st2 := [.long q_1.1]) (c_X12_appends hty (0 : Int64) v0 σ hq_1) mt_X12_appends ml_X12_177 rfl (Nat.le_of_ble_eq_true rfl) rfl (Nat.le_of_ble_eq_true rfl) E d_X12_word_2 rfl ?_
  refine wa_iload_n 1 rfl E d_X12_word_5 ?_
  obtain ⟨q_2, hq_2, h⟩ := kf_bd h
  refine wa_callS (st2 := [.long q_2.1]) (c_X12_appends hty q_1.1 v1 q_1.2 hq_2) mt_X12_appends ml_X12_177 rfl (Nat.le_of_ble_eq_true rfl) rfl (Nat.le_of_ble_eq_true rfl) E d_X12_word_6 rfl ?_
  refine wa_iload_n 2 rfl E d_X12_word_9 ?_
  obtain ⟨q_3, hq_3, h⟩ := kf_bd h
  refine wa_callS (st2 := [.long q_3.1]) (c_X12_appends hty q_2.1 v2 q_2.2 hq_3) mt_X12_appends ml_X12_177 rfl (Nat.le_of_ble_eq_true rfl) rfl (Nat.le_of_ble_eq_true rfl) E d_X12_word_10 rfl ?_
  refine wa_iload_n 3 rfl E d_X12_word_13 ?_
  obtain ⟨q_4, hq_4, h⟩ := kf_bd h
  refine wa_callS (st2 := [.long q_4.1]) (c_X12_appends hty q_3.1 v3 q_3.2 hq_4) mt_X12_appends ml_X12_177 rfl (Nat.le_of_ble_eq_true rfl) rfl (Nat.le_of_ble_eq_true rfl) E d_X12_word_14 rfl ?_
  refine wa_iload 4 rfl E d_X12_word_17 ?_
  obtain ⟨q_5, hq_5, h⟩ := kf_bd h
  refine wa_callS (st2 := [.long q_5.1]) (c_X12_appends hty q_4.1 v4 q_4.2 hq_5) mt_X12_appends ml_X12_177 rfl (Nat.le_of_ble_eq_true rfl) rfl (Nat.le_of_ble_eq_true rfl) E d_X12_word_19 rfl ?_
  refine wa_iload 5 rfl E d_X12_word_22 ?_
  obtain ⟨q_6, hq_6, h⟩ := kf_bd h
  refine wa_callS (st2 := [.long q_6.1]) (c_X12_appends hty q_5.1 v5 q_5.2 hq_6) mt_X12_appends ml_X12_177 rfl (Nat.le_of_ble_eq_true rfl) rfl (Nat.le_of_ble_eq_true rfl) E d_X12_word_24 rfl ?_
  refine wa_iload 6 rfl E d_X12_word_27 ?_
  obtain ⟨q_7, hq_7, h⟩ := kf_bd h
  refine wa_callS (st2 := [.long q_7.1]) (c_X12_appends hty q_6.1 v6 q_6.2 hq_7) mt_X12_appends ml_X12_177 rfl (Nat.le_of_ble_eq_true rfl) rfl (Nat.le_of_ble_eq_true rfl) E d_X12_word_29 rfl ?_
  cases h
  exact wa_lret E d_X12_word_32
/-! X12_begins -/
theorem d_X12_begins_0 : kf_dq cX12_begins 0 1 1 (.iconst 0) := ⟨by decide +kernel, rfl⟩
theorem d_X12_begins_1 : kf_dq cX12_begins 1 2 1 (.istore_n 1) := ⟨by decide +kernel, rfl⟩
theorem d_X12_begins_2 : kf_dq cX12_begins 2 3 1 (.iload_n 1) := ⟨by decide +kernel, rfl⟩
theorem d_X12_begins_3 : kf_dq cX12_begins 3 5 2 (.bipush 70) := ⟨by decide +kernel, rfl⟩
theorem d_X12_begins_5 : kf_dj cX12_begins 5 8 21 (.if_icmp .ge) := ⟨16, by decide +kernel, rfl, by decide⟩
theorem d_X12_begins_8 : kf_dq cX12_begins 8 9 1 (.aload_n 0) := ⟨by decide +kernel, rfl⟩
theorem d_X12_begins_9 : kf_dq cX12_begins 9 12 3 (.getfield 122) := ⟨by decide +kernel, rfl⟩
theorem d_X12_begins_12 : kf_dq cX12_begins 12 13 1 (.iload_n 1) := ⟨by decide +kernel, rfl⟩
theorem d_X12_begins_13 : kf_dq cX12_begins 13 14 1 (.iconst 0) := ⟨by decide +kernel, rfl⟩
theorem d_X12_begins_14 : kf_dq cX12_begins 14 15 1 (.iastore) := ⟨by decide +kernel, rfl⟩
theorem d_X12_begins_15 : kf_dq cX12_begins 15 18 3 (.iinc 1 1) := ⟨by decide +kernel, rfl⟩
theorem d_X12_begins_18 : kf_dj cX12_begins 18 21 2 .goto := ⟨(-16), by decide +kernel, rfl, by decide⟩
theorem d_X12_begins_21 : kf_dq cX12_begins 21 22 1 (.iconst 0) := ⟨by decide +kernel, rfl⟩
theorem d_X12_begins_22 : kf_dq cX12_begins 22 23 1 (.istore_n 1) := ⟨by decide +kernel, rfl⟩
theorem d_X12_begins_23 : kf_dq cX12_begins 23 24 1 (.iload_n 1) := ⟨by decide +kernel, rfl⟩
theorem d_X12_begins_24 : kf_dq cX12_begins 24 25 1 (.iconst 4) := ⟨by decide +kernel, rfl⟩
theorem d_X12_begins_25 : kf_dq cX12_begins 25 26 1 (.aload_n 0) := ⟨by decide +kernel, rfl⟩
theorem d_X12_begins_26 : kf_dq cX12_begins 26 29 3 (.getfield 46) := ⟨by decide +kernel, rfl⟩
theorem d_X12_begins_29 : kf_dq cX12_begins 29 30 1 (.aload_n 0) := ⟨by decide +kernel, rfl⟩
theorem d_X12_begins_30 : kf_dq cX12_begins 30 33 3 (.getfield 233) := ⟨by decide +kernel, rfl⟩
theorem d_X12_begins_33 : kf_dq cX12_begins 33 34 1 (.iaload) := ⟨by decide +kernel, rfl⟩
theorem d_X12_begins_34 : kf_dq cX12_begins 34 35 1 (.imul) := ⟨by decide +kernel, rfl⟩
theorem d_X12_begins_35 : kf_dj cX12_begins 35 38 64 (.if_icmp .ge) := ⟨29, by decide +kernel, rfl, by decide⟩
theorem d_X12_begins_38 : kf_dq cX12_begins 38 39 1 (.aload_n 0) := ⟨by decide +kernel, rfl⟩
theorem d_X12_begins_39 : kf_dq cX12_begins 39 42 3 (.getfield 122) := ⟨by decide +kernel, rfl⟩
theorem d_X12_begins_42 : kf_dq cX12_begins 42 43 1 (.iload_n 1) := ⟨by decide +kernel, rfl⟩
theorem d_X12_begins_43 : kf_dq cX12_begins 43 44 1 (.aload_n 0) := ⟨by decide +kernel, rfl⟩
theorem d_X12_begins_44 : kf_dq cX12_begins 44 47 3 (.getfield 49) := ⟨by decide +kernel, rfl⟩
theorem d_X12_begins_47 : kf_dq cX12_begins 47 49 2 (.bipush 24) := ⟨by decide +kernel, rfl⟩
theorem d_X12_begins_49 : kf_dq cX12_begins 49 50 1 (.aload_n 0) := ⟨by decide +kernel, rfl⟩
theorem d_X12_begins_50 : kf_dq cX12_begins 50 53 3 (.getfield 233) := ⟨by decide +kernel, rfl⟩
theorem d_X12_begins_53 : kf_dq cX12_begins 53 54 1 (.imul) := ⟨by decide +kernel, rfl⟩
theorem d_X12_begins_54 : kf_dq cX12_begins 54 55 1 (.iload_n 1) := ⟨by decide +kernel, rfl⟩
theorem d_X12_begins_55 : kf_dq cX12_begins 55 56 1 (.iadd) := ⟨by decide +kernel, rfl⟩
theorem d_X12_begins_56 : kf_dq cX12_begins 56 57 1 (.iaload) := ⟨by decide +kernel, rfl⟩
theorem d_X12_begins_57 : kf_dq cX12_begins 57 58 1 (.iastore) := ⟨by decide +kernel, rfl⟩
theorem d_X12_begins_58 : kf_dq cX12_begins 58 61 3 (.iinc 1 1) := ⟨by decide +kernel, rfl⟩
theorem d_X12_begins_61 : kf_dj cX12_begins 61 64 23 .goto := ⟨(-38), by decide +kernel, rfl, by decide⟩
theorem d_X12_begins_64 : kf_dq cX12_begins 64 65 1 (.iconst 0) := ⟨by decide +kernel, rfl⟩
theorem d_X12_begins_65 : kf_dq cX12_begins 65 66 1 (.istore_n 1) := ⟨by decide +kernel, rfl⟩
theorem d_X12_begins_66 : kf_dq cX12_begins 66 67 1 (.iload_n 1) := ⟨by decide +kernel, rfl⟩
theorem d_X12_begins_67 : kf_dq cX12_begins 67 68 1 (.aload_n 0) := ⟨by decide +kernel, rfl⟩
theorem d_X12_begins_68 : kf_dq cX12_begins 68 71 3 (.getfield 58) := ⟨by decide +kernel, rfl⟩
theorem d_X12_begins_71 : kf_dq cX12_begins 71 72 1 (.aload_n 0) := ⟨by decide +kernel, rfl⟩
theorem d_X12_begins_72 : kf_dq cX12_begins 72 75 3 (.getfield 233) := ⟨by decide +kernel, rfl⟩
theorem d_X12_begins_75 : kf_dq cX12_begins 75 76 1 (.iaload) := ⟨by decide +kernel, rfl⟩
theorem d_X12_begins_76 : kf_dj cX12_begins 76 79 95 (.if_icmp .ge) := ⟨19, by decide +kernel, rfl, by decide⟩
theorem d_X12_begins_79 : kf_dq cX12_begins 79 80 1 (.aload_n 0) := ⟨by decide +kernel, rfl⟩
theorem d_X12_begins_80 : kf_dq cX12_begins 80 83 3 (.getfield 122) := ⟨by decide +kernel, rfl⟩
theorem d_X12_begins_83 : kf_dq cX12_begins 83 85 2 (.bipush 54) := ⟨by decide +kernel, rfl⟩
theorem d_X12_begins_85 : kf_dq cX12_begins 85 86 1 (.iload_n 1) := ⟨by decide +kernel, rfl⟩
theorem d_X12_begins_86 : kf_dq cX12_begins 86 87 1 (.iadd) := ⟨by decide +kernel, rfl⟩
theorem d_X12_begins_87 : kf_dq cX12_begins 87 88 1 (.iconst 1) := ⟨by decide +kernel, rfl⟩
theorem d_X12_begins_88 : kf_dq cX12_begins 88 89 1 (.iastore) := ⟨by decide +kernel, rfl⟩
theorem d_X12_begins_89 : kf_dq cX12_begins 89 92 3 (.iinc 1 1) := ⟨by decide +kernel, rfl⟩
theorem d_X12_begins_92 : kf_dj cX12_begins 92 95 66 .goto := ⟨(-26), by decide +kernel, rfl, by decide⟩
theorem d_X12_begins_95 : kf_dq cX12_begins 95 96 1 (.aload_n 0) := ⟨by decide +kernel, rfl⟩
theorem d_X12_begins_96 : kf_dq cX12_begins 96 97 1 (.aload_n 0) := ⟨by decide +kernel, rfl⟩
theorem d_X12_begins_97 : kf_dq cX12_begins 97 100 3 (.getfield 79) := ⟨by decide +kernel, rfl⟩
theorem d_X12_begins_100 : kf_dq cX12_begins 100 101 1 (.aload_n 0) := ⟨by decide +kernel, rfl⟩
theorem d_X12_begins_101 : kf_dq cX12_begins 101 104 3 (.getfield 233) := ⟨by decide +kernel, rfl⟩
theorem d_X12_begins_104 : kf_dq cX12_begins 104 105 1 (.iaload) := ⟨by decide +kernel, rfl⟩
theorem d_X12_begins_105 : kf_dq cX12_begins 105 108 3 (.putfield 317) := ⟨by decide +kernel, rfl⟩
theorem d_X12_begins_108 : kf_dq cX12_begins 108 109 1 (.aload_n 0) := ⟨by decide +kernel, rfl⟩
theorem d_X12_begins_109 : kf_dq cX12_begins 109 110 1 (.iconst 0) := ⟨by decide +kernel, rfl⟩
theorem d_X12_begins_110 : kf_dq cX12_begins 110 113 3 (.putfield 320) := ⟨by decide +kernel, rfl⟩
theorem d_X12_begins_113 : kf_dq cX12_begins 113 114 1 (.return_) := ⟨by decide +kernel, rfl⟩
def f_X12_begins_66_s (rec66 : Nat → Int32 → kf_St → Option kf_St) (v0 : Nat) (v1 : Int32) (σ : kf_St) : Option kf_St :=
  if kf_ix (σ.1 v0 18) (kf_ln (kf_rf v0 27)) = true then
  if (σ.1 (kf_rf v0 27) (Int32.toNatClampNeg (σ.1 v0 18))) ≤ v1 then
    if kf_ix (σ.1 v0 18) (kf_ln (kf_rf v0 34)) = true then
    kf_lt (kf_wi σ v0 53 (σ.1 (kf_rf v0 34) (Int32.toNatClampNeg (σ.1 v0 18)))) fun σ_4 =>
    kf_lt (kf_wi σ_4 v0 54 0) fun σ_5 =>
    some σ_5
    else none
  else
    if kf_ix (54 + v1) (kf_ln (kf_rf v0 52)) = true then
    kf_lt (kf_wi σ (kf_rf v0 52) (Int32.toNatClampNeg (54 + v1)) 1) fun σ_7 =>
    kf_lt (v1 + 1) fun v1_8 =>
    rec66 v0 v1_8 σ_7
    else none
  else none
def f_X12_begins_66 : Nat → Nat → Int32 → kf_St → Option kf_St
  | 0, _, _, _ => none
  | n + 1, v0, v1, σ => f_X12_begins_66_s (f_X12_begins_66 n) v0 v1 σ
set_option maxRecDepth 100000 in
set_option maxHeartbeats 4000000 in
theorem b_X12_begins_66_s {X : kf_X} {G : kf_G} (rec66 : Nat → Int32 → kf_St → Option kf_St) {q : kf_St} (E : kf_ok X G cX12_begins RX12 2 none (1)) (hty : kf_wt G) (hrec66 : ∀ (v0 : Nat) (v1 : Int32) (k_v0 : kf_kd G v0 = 13) (σ : kf_St), rec66 v0 v1 σ = some q → kf_WA X G 2 (kf_Q X G none q) 66 [(0, .ref (kf_ad G v0)), (1, .int v1)] [] σ) (v0 : Nat) (v1 : Int32) (k_v0 : kf_kd G v0 = 13) (σ : kf_St) (h : f_X12_begins_66_s rec66 v0 v1 σ = some q) : kf_WA X G 2 (kf_Q X G none q) 66 [(0, .ref (kf_ad G v0)), (1, .int v1)] [] σ := by
  unfold f_X12_begins_66_s at h
  refine wa_iload_n 1 rfl E d_X12_begins_66 ?_
  refine wa_aload_n 0 rfl E d_X12_begins_67 ?_
  refine wa_getR fl_X12_58 k_v0 rfl E d_X12_begins_68 ?_
  refine wa_aload_n 0 rfl E d_X12_begins_71 ?_
  refine wa_getI fl_X12_233 k_v0 rfl E d_X12_begins_72 ?_
  obtain ⟨g_1, h⟩ := kf_gd h
  refine wa_iald (kf_wtf hty 27 49 k_v0 (by decide) rfl) g_1 E d_X12_begins_75 ?_
  refine wa_icmp_ge E d_X12_begins_76 (fun c_2 => ?_) (fun c_2 => ?_)
  · replace h := kf_ift c_2 h
    refine wa_aload_n 0 rfl E d_X12_begins_95 ?_
    refine wa_aload_n 0 rfl E d_X12_begins_96 ?_
    refine wa_getR fl_X12_79 k_v0 rfl E d_X12_begins_97 ?_
    refine wa_aload_n 0 rfl E d_X12_begins_100 ?_
    refine wa_getI fl_X12_233 k_v0 rfl E d_X12_begins_101 ?_
    obtain ⟨g_3, h⟩ := kf_gd h
    refine wa_iald (kf_wtf hty 34 49 k_v0 (by decide) rfl) g_3 E d_X12_begins_104 ?_
    obtain ⟨σ_4, eσ_4, h⟩ := kf_lte h
    refine wa_putI fl_X12_317 fp_12_53 k_v0 rfl (by decide) rfl rfl E d_X12_begins_105 eσ_4 ?_
    refine wa_aload_n 0 rfl E d_X12_begins_108 ?_
    refine wa_iconst 0 ic_0 E d_X12_begins_109 ?_
    obtain ⟨σ_5, eσ_5, h⟩ := kf_lte h
    refine wa_putI fl_X12_320 fp_12_54 k_v0 rfl (by decide) kf_z0 kf_f0 E d_X12_begins_110 eσ_5 ?_
    cases h
    exact wa_vret E d_X12_begins_113
  · replace h := kf_iff c_2 h
    refine wa_aload_n 0 rfl E d_X12_begins_79 ?_
    refine wa_getR fl_X12_122 k_v0 rfl E d_X12_begins_80 ?_
    refine wa_bipush 54 bp_54 E d_X12_begins_83 ?_
    refine wa_iload_n 1 rfl E d_X12_begins_85 ?_
    refine wa_iadd E d_X12_begins_86 ?_
    refine wa_iconst 1 ic_1 E d_X12_begins_87 ?_
    obtain ⟨g_6, h⟩ := kf_gd h
    obtain ⟨σ_7, eσ_7, h⟩ := kf_lte h
    refine wa_iast (kf_wtf hty 52 49 k_v0 (by decide) rfl) g_6 E d_X12_begins_88 eσ_7 ?_
    obtain ⟨v1_8, ev1_8, h⟩ := kf_lte h
    refine wa_iinc (lv' := [(1, .int v1_8), (0, .ref (kf_ad G v0))]) v1_8 1 rfl (kf_inc ic_1 ev1_8) (by decide) rfl E d_X12_begins_89 ?_
    refine wa_goto E d_X12_begins_92 ?_
    refine wa_sub [1, 0] rfl ?_
    exact hrec66 v0 v1_8 k_v0 σ_7 h
theorem b_X12_begins_66 {X : kf_X} {G : kf_G} {q : kf_St} (E : kf_ok X G cX12_begins RX12 2 none (1)) (hty : kf_wt G) : ∀ (N : Nat) (v0 : Nat) (v1 : Int32) (k_v0 : kf_kd G v0 = 13) (σ : kf_St) (_ : f_X12_begins_66 N v0 v1 σ = some q), kf_WA X G 2 (kf_Q X G none q) 66 [(0, .ref (kf_ad G v0)), (1, .int v1)] [] σ
  | 0, _, _, _, _, h => by cases h
  | N + 1, v0, v1, k_v0, σ, h => b_X12_begins_66_s _ E hty (b_X12_begins_66 E hty N) v0 v1 k_v0 σ h
def f_X12_begins_23_s (rec23 : Nat → Int32 → kf_St → Option kf_St) (v0 : Nat) (v1 : Int32) (σ : kf_St) : Option kf_St :=
  if kf_ix (σ.1 v0 18) (kf_ln (kf_rf v0 23)) = true then
  if (4 * (σ.1 (kf_rf v0 23) (Int32.toNatClampNeg (σ.1 v0 18)))) ≤ v1 then
    f_X12_begins_66 kf_F v0 0 σ
  else
    if kf_ix ((24 * (σ.1 v0 18)) + v1) (kf_ln (kf_rf v0 24)) = true then
    if kf_ix v1 (kf_ln (kf_rf v0 52)) = true then
    kf_lt (kf_wi σ (kf_rf v0 52) (Int32.toNatClampNeg v1) (σ.1 (kf_rf v0 24) (Int32.toNatClampNeg ((24 * (σ.1 v0 18)) + v1)))) fun σ_5 =>
    kf_lt (v1 + 1) fun v1_6 =>
    rec23 v0 v1_6 σ_5
    else none
    else none
  else none
def f_X12_begins_23 : Nat → Nat → Int32 → kf_St → Option kf_St
  | 0, _, _, _ => none
  | n + 1, v0, v1, σ => f_X12_begins_23_s (f_X12_begins_23 n) v0 v1 σ
set_option maxRecDepth 100000 in
set_option maxHeartbeats 4000000 in
theorem b_X12_begins_23_s {X : kf_X} {G : kf_G} (rec23 : Nat → Int32 → kf_St → Option kf_St) {q : kf_St} (E : kf_ok X G cX12_begins RX12 2 none (1)) (hty : kf_wt G) (hrec23 : ∀ (v0 : Nat) (v1 : Int32) (k_v0 : kf_kd G v0 = 13) (σ : kf_St), rec23 v0 v1 σ = some q → kf_WA X G 2 (kf_Q X G none q) 23 [(0, .ref (kf_ad G v0)), (1, .int v1)] [] σ) (v0 : Nat) (v1 : Int32) (k_v0 : kf_kd G v0 = 13) (σ : kf_St) (h : f_X12_begins_23_s rec23 v0 v1 σ = some q) : kf_WA X G 2 (kf_Q X G none q) 23 [(0, .ref (kf_ad G v0)), (1, .int v1)] [] σ := by
  unfold f_X12_begins_23_s at h
  refine wa_iload_n 1 rfl E d_X12_begins_23 ?_
  refine wa_iconst 4 ic_4 E d_X12_begins_24 ?_
  refine wa_aload_n 0 rfl E d_X12_begins_25 ?_
  refine wa_getR fl_X12_46 k_v0 rfl E d_X12_begins_26 ?_
  refine wa_aload_n 0 rfl E d_X12_begins_29 ?_
  refine wa_getI fl_X12_233 k_v0 rfl E d_X12_begins_30 ?_
  obtain ⟨g_1, h⟩ := kf_gd h
  refine wa_iald (kf_wtf hty 23 49 k_v0 (by decide) rfl) g_1 E d_X12_begins_33 ?_
  refine wa_imul E d_X12_begins_34 ?_
  refine wa_icmp_ge E d_X12_begins_35 (fun c_2 => ?_) (fun c_2 => ?_)
  · replace h := kf_ift c_2 h
    refine wa_iconst 0 ic_0 E d_X12_begins_64 ?_
    refine wa_istore_n (lv' := [(1, .int 0), (0, .ref (kf_ad G v0))]) rfl (by decide) rfl E d_X12_begins_65 ?_
    refine wa_sub [1, 0] rfl ?_
    exact b_X12_begins_66 E hty kf_F v0 0 k_v0 σ h
  · replace h := kf_iff c_2 h
    refine wa_aload_n 0 rfl E d_X12_begins_38 ?_
    refine wa_getR fl_X12_122 k_v0 rfl E d_X12_begins_39 ?_
    refine wa_iload_n 1 rfl E d_X12_begins_42 ?_
    refine wa_aload_n 0 rfl E d_X12_begins_43 ?_
    refine wa_getR fl_X12_49 k_v0 rfl E d_X12_begins_44 ?_
    refine wa_bipush 24 bp_24 E d_X12_begins_47 ?_
    refine wa_aload_n 0 rfl E d_X12_begins_49 ?_
    refine wa_getI fl_X12_233 k_v0 rfl E d_X12_begins_50 ?_
    refine wa_imul E d_X12_begins_53 ?_
    refine wa_iload_n 1 rfl E d_X12_begins_54 ?_
    refine wa_iadd E d_X12_begins_55 ?_
    obtain ⟨g_3, h⟩ := kf_gd h
    refine wa_iald (kf_wtf hty 24 49 k_v0 (by decide) rfl) g_3 E d_X12_begins_56 ?_
    obtain ⟨g_4, h⟩ := kf_gd h
    obtain ⟨σ_5, eσ_5, h⟩ := kf_lte h
    refine wa_iast (kf_wtf hty 52 49 k_v0 (by decide) rfl) g_4 E d_X12_begins_57 eσ_5 ?_
    obtain ⟨v1_6, ev1_6, h⟩ := kf_lte h
    refine wa_iinc (lv' := [(1, .int v1_6), (0, .ref (kf_ad G v0))]) v1_6 1 rfl (kf_inc ic_1 ev1_6) (by decide) rfl E d_X12_begins_58 ?_
    refine wa_goto E d_X12_begins_61 ?_
    refine wa_sub [1, 0] rfl ?_
    exact hrec23 v0 v1_6 k_v0 σ_5 h
theorem b_X12_begins_23 {X : kf_X} {G : kf_G} {q : kf_St} (E : kf_ok X G cX12_begins RX12 2 none (1)) (hty : kf_wt G) : ∀ (N : Nat) (v0 : Nat) (v1 : Int32) (k_v0 : kf_kd G v0 = 13) (σ : kf_St) (_ : f_X12_begins_23 N v0 v1 σ = some q), kf_WA X G 2 (kf_Q X G none q) 23 [(0, .ref (kf_ad G v0)), (1, .int v1)] [] σ
  | 0, _, _, _, _, h => by cases h
  | N + 1, v0, v1, k_v0, σ, h => b_X12_begins_23_s _ E hty (b_X12_begins_23 E hty N) v0 v1 k_v0 σ h
def f_X12_begins_2_s (rec2 : Nat → Int32 → kf_St → Option kf_St) (v0 : Nat) (v1 : Int32) (σ : kf_St) : Option kf_St :=
  if 70 ≤ v1 then
    f_X12_begins_23 kf_F v0 0 σ
  else
    if kf_ix v1 (kf_ln (kf_rf v0 52)) = true then
    kf_lt (kf_wi σ (kf_rf v0 52) (Int32.toNatClampNeg v1) 0) fun σ_3 =>
    kf_lt (v1 + 1) fun v1_4 =>
    rec2 v0 v1_4 σ_3
    else none
def f_X12_begins_2 : Nat → Nat → Int32 → kf_St → Option kf_St
  | 0, _, _, _ => none
  | n + 1, v0, v1, σ => f_X12_begins_2_s (f_X12_begins_2 n) v0 v1 σ
set_option maxRecDepth 100000 in
set_option maxHeartbeats 4000000 in
theorem b_X12_begins_2_s {X : kf_X} {G : kf_G} (rec2 : Nat → Int32 → kf_St → Option kf_St) {q : kf_St} (E : kf_ok X G cX12_begins RX12 2 none (1)) (hty : kf_wt G) (hrec2 : ∀ (v0 : Nat) (v1 : Int32) (k_v0 : kf_kd G v0 = 13) (σ : kf_St), rec2 v0 v1 σ = some q → kf_WA X G 2 (kf_Q X G none q) 2 [(0, .ref (kf_ad G v0)), (1, .int v1)] [] σ) (v0 : Nat) (v1 : Int32) (k_v0 : kf_kd G v0 = 13) (σ : kf_St) (h : f_X12_begins_2_s rec2 v0 v1 σ = some q) : kf_WA X G 2 (kf_Q X G none q) 2 [(0, .ref (kf_ad G v0)), (1, .int v1)] [] σ := by
  unfold f_X12_begins_2_s at h
  refine wa_iload_n 1 rfl E d_X12_begins_2 ?_
  refine wa_bipush 70 bp_70 E d_X12_begins_3 ?_
  refine wa_icmp_ge E d_X12_begins_5 (fun c_1 => ?_) (fun c_1 => ?_)
  · replace h := kf_ift c_1 h
    refine wa_iconst 0 ic_0 E d_X12_begins_21 ?_
    refine wa_istore_n (lv' := [(1, .int 0), (0, .ref (kf_ad G v0))]) rfl (by decide) rfl E d_X12_begins_22 ?_
    refine wa_sub [1, 0] rfl ?_
    exact b_X12_begins_23 E hty kf_F v0 0 k_v0 σ h
  · replace h := kf_iff c_1 h
    refine wa_aload_n 0 rfl E d_X12_begins_8 ?_
    refine wa_getR fl_X12_122 k_v0 rfl E d_X12_begins_9 ?_
    refine wa_iload_n 1 rfl E d_X12_begins_12 ?_
    refine wa_iconst 0 ic_0 E d_X12_begins_13 ?_
    obtain ⟨g_2, h⟩ := kf_gd h
    obtain ⟨σ_3, eσ_3, h⟩ := kf_lte h
    refine wa_iast (kf_wtf hty 52 49 k_v0 (by decide) rfl) g_2 E d_X12_begins_14 eσ_3 ?_
    obtain ⟨v1_4, ev1_4, h⟩ := kf_lte h
    refine wa_iinc (lv' := [(1, .int v1_4), (0, .ref (kf_ad G v0))]) v1_4 1 rfl (kf_inc ic_1 ev1_4) (by decide) rfl E d_X12_begins_15 ?_
    refine wa_goto E d_X12_begins_18 ?_
    refine wa_sub [1, 0] rfl ?_
    exact hrec2 v0 v1_4 k_v0 σ_3 h
theorem b_X12_begins_2 {X : kf_X} {G : kf_G} {q : kf_St} (E : kf_ok X G cX12_begins RX12 2 none (1)) (hty : kf_wt G) : ∀ (N : Nat) (v0 : Nat) (v1 : Int32) (k_v0 : kf_kd G v0 = 13) (σ : kf_St) (_ : f_X12_begins_2 N v0 v1 σ = some q), kf_WA X G 2 (kf_Q X G none q) 2 [(0, .ref (kf_ad G v0)), (1, .int v1)] [] σ
  | 0, _, _, _, _, h => by cases h
  | N + 1, v0, v1, k_v0, σ, h => b_X12_begins_2_s _ E hty (b_X12_begins_2 E hty N) v0 v1 k_v0 σ h
def f_X12_begins (v0 : Nat) (σ : kf_St) : Option kf_St :=
  f_X12_begins_2 kf_F v0 0 σ
set_option maxRecDepth 100000 in
set_option maxHeartbeats 4000000 in
theorem c_X12_begins {G : kf_G} (hty : kf_wt G) (v0 : Nat) (k_v0 : kf_kd G v0 = 13) (σ : kf_St) {q : kf_St} (h : f_X12_begins v0 σ = some q) : kf_Ct (1) yX12_begins cX12_begins 2 none G [.ref (kf_ad G v0)] σ none q := by
  refine kf_Ct.of hty.1 (lv := [(0, .ref (kf_ad G v0))]) (by decide +kernel) rfl (Nat.le_of_ble_eq_true rfl) (fun X E => ?_)
  unfold f_X12_begins at h
  refine wa_iconst 0 ic_0 E d_X12_begins_0 ?_
  refine wa_istore_n (lv' := [(1, .int 0), (0, .ref (kf_ad G v0))]) rfl (by decide) rfl E d_X12_begins_1 ?_
  refine wa_sub [1, 0] rfl ?_
  exact b_X12_begins_2 E hty kf_F v0 0 k_v0 σ h
/-! X12_keepsRow -/
theorem d_X12_keepsRow_0 : kf_dq cX12_keepsRow 0 1 1 (.iconst 0) := ⟨by decide +kernel, rfl⟩
theorem d_X12_keepsRow_1 : kf_dq cX12_keepsRow 1 2 1 (.istore_n 1) := ⟨by decide +kernel, rfl⟩
theorem d_X12_keepsRow_2 : kf_dq cX12_keepsRow 2 3 1 (.iload_n 1) := ⟨by decide +kernel, rfl⟩
theorem d_X12_keepsRow_3 : kf_dq cX12_keepsRow 3 5 2 (.bipush 70) := ⟨by decide +kernel, rfl⟩
theorem d_X12_keepsRow_5 : kf_dj cX12_keepsRow 5 8 26 (.if_icmp .ge) := ⟨21, by decide +kernel, rfl, by decide⟩
theorem d_X12_keepsRow_8 : kf_dq cX12_keepsRow 8 9 1 (.aload_n 0) := ⟨by decide +kernel, rfl⟩
theorem d_X12_keepsRow_9 : kf_dq cX12_keepsRow 9 12 3 (.getfield 119) := ⟨by decide +kernel, rfl⟩
theorem d_X12_keepsRow_12 : kf_dq cX12_keepsRow 12 13 1 (.iload_n 1) := ⟨by decide +kernel, rfl⟩
theorem d_X12_keepsRow_13 : kf_dq cX12_keepsRow 13 14 1 (.aload_n 0) := ⟨by decide +kernel, rfl⟩
theorem d_X12_keepsRow_14 : kf_dq cX12_keepsRow 14 17 3 (.getfield 122) := ⟨by decide +kernel, rfl⟩
theorem d_X12_keepsRow_17 : kf_dq cX12_keepsRow 17 18 1 (.iload_n 1) := ⟨by decide +kernel, rfl⟩
theorem d_X12_keepsRow_18 : kf_dq cX12_keepsRow 18 19 1 (.iaload) := ⟨by decide +kernel, rfl⟩
theorem d_X12_keepsRow_19 : kf_dq cX12_keepsRow 19 20 1 (.iastore) := ⟨by decide +kernel, rfl⟩
theorem d_X12_keepsRow_20 : kf_dq cX12_keepsRow 20 23 3 (.iinc 1 1) := ⟨by decide +kernel, rfl⟩
theorem d_X12_keepsRow_23 : kf_dj cX12_keepsRow 23 26 2 .goto := ⟨(-21), by decide +kernel, rfl, by decide⟩
theorem d_X12_keepsRow_26 : kf_dq cX12_keepsRow 26 27 1 (.return_) := ⟨by decide +kernel, rfl⟩
def f_X12_keepsRow_2_s (rec2 : Nat → Int32 → kf_St → Option kf_St) (v0 : Nat) (v1 : Int32) (σ : kf_St) : Option kf_St :=
  if 70 ≤ v1 then
    some σ
  else
    if kf_ix v1 (kf_ln (kf_rf v0 52)) = true then
    if kf_ix v1 (kf_ln (kf_rf v0 51)) = true then
    kf_lt (kf_wi σ (kf_rf v0 51) (Int32.toNatClampNeg v1) (σ.1 (kf_rf v0 52) (Int32.toNatClampNeg v1))) fun σ_4 =>
    kf_lt (v1 + 1) fun v1_5 =>
    rec2 v0 v1_5 σ_4
    else none
    else none
def f_X12_keepsRow_2 : Nat → Nat → Int32 → kf_St → Option kf_St
  | 0, _, _, _ => none
  | n + 1, v0, v1, σ => f_X12_keepsRow_2_s (f_X12_keepsRow_2 n) v0 v1 σ
set_option maxRecDepth 100000 in
set_option maxHeartbeats 4000000 in
theorem b_X12_keepsRow_2_s {X : kf_X} {G : kf_G} (rec2 : Nat → Int32 → kf_St → Option kf_St) {q : kf_St} (E : kf_ok X G cX12_keepsRow RX12 2 none (1)) (hty : kf_wt G) (hrec2 : ∀ (v0 : Nat) (v1 : Int32) (k_v0 : kf_kd G v0 = 13) (σ : kf_St), rec2 v0 v1 σ = some q → kf_WA X G 2 (kf_Q X G none q) 2 [(0, .ref (kf_ad G v0)), (1, .int v1)] [] σ) (v0 : Nat) (v1 : Int32) (k_v0 : kf_kd G v0 = 13) (σ : kf_St) (h : f_X12_keepsRow_2_s rec2 v0 v1 σ = some q) : kf_WA X G 2 (kf_Q X G none q) 2 [(0, .ref (kf_ad G v0)), (1, .int v1)] [] σ := by
  unfold f_X12_keepsRow_2_s at h
  refine wa_iload_n 1 rfl E d_X12_keepsRow_2 ?_
  refine wa_bipush 70 bp_70 E d_X12_keepsRow_3 ?_
  refine wa_icmp_ge E d_X12_keepsRow_5 (fun c_1 => ?_) (fun c_1 => ?_)
  · replace h := kf_ift c_1 h
    cases h
    exact wa_vret E d_X12_keepsRow_26
  · replace h := kf_iff c_1 h
    refine wa_aload_n 0 rfl E d_X12_keepsRow_8 ?_
    refine wa_getR fl_X12_119 k_v0 rfl E d_X12_keepsRow_9 ?_
    refine wa_iload_n 1 rfl E d_X12_keepsRow_12 ?_
    refine wa_aload_n 0 rfl E d_X12_keepsRow_13 ?_
    refine wa_getR fl_X12_122 k_v0 rfl E d_X12_keepsRow_14 ?_
    refine wa_iload_n 1 rfl E d_X12_keepsRow_17 ?_
    obtain ⟨g_2, h⟩ := kf_gd h
    refine wa_iald (kf_wtf hty 52 49 k_v0 (by decide) rfl) g_2 E d_X12_keepsRow_18 ?_
    obtain ⟨g_3, h⟩ := kf_gd h
    obtain ⟨σ_4, eσ_4, h⟩ := kf_lte h
    refine wa_iast (kf_wtf hty 51 49 k_v0 (by decide) rfl) g_3 E d_X12_keepsRow_19 eσ_4 ?_
    obtain ⟨v1_5, ev1_5, h⟩ := kf_lte h
    refine wa_iinc (lv' := [(1, .int v1_5), (0, .ref (kf_ad G v0))]) v1_5 1 rfl (kf_inc ic_1 ev1_5) (by decide) rfl E d_X12_keepsRow_20 ?_
    refine wa_goto E d_X12_keepsRow_23 ?_
    refine wa_sub [1, 0] rfl ?_
    exact hrec2 v0 v1_5 k_v0 σ_4 h
theorem b_X12_keepsRow_2 {X : kf_X} {G : kf_G} {q : kf_St} (E : kf_ok X G cX12_keepsRow RX12 2 none (1)) (hty : kf_wt G) : ∀ (N : Nat) (v0 : Nat) (v1 : Int32) (k_v0 : kf_kd G v0 = 13) (σ : kf_St) (_ : f_X12_keepsRow_2 N v0 v1 σ = some q), kf_WA X G 2 (kf_Q X G none q) 2 [(0, .ref (kf_ad G v0)), (1, .int v1)] [] σ
  | 0, _, _, _, _, h => by cases h
  | N + 1, v0, v1, k_v0, σ, h => b_X12_keepsRow_2_s _ E hty (b_X12_keepsRow_2 E hty N) v0 v1 k_v0 σ h
def f_X12_keepsRow (v0 : Nat) (σ : kf_St) : Option kf_St :=
  f_X12_keepsRow_2 kf_F v0 0 σ
set_option maxRecDepth 100000 in
set_option maxHeartbeats 4000000 in
theorem c_X12_keepsRow {G : kf_G} (hty : kf_wt G) (v0 : Nat) (k_v0 : kf_kd G v0 = 13) (σ : kf_St) {q : kf_St} (h : f_X12_keepsRow v0 σ = some q) : kf_Ct (1) yX12_keepsRow cX12_keepsRow 2 none G [.ref (kf_ad G v0)] σ none q := by
  refine kf_Ct.of hty.1 (lv := [(0, .ref (kf_ad G v0))]) (by decide +kernel) rfl (Nat.le_of_ble_eq_true rfl) (fun X E => ?_)
  unfold f_X12_keepsRow at h
  refine wa_iconst 0 ic_0 E d_X12_keepsRow_0 ?_
  refine wa_istore_n (lv' := [(1, .int 0), (0, .ref (kf_ad G v0))]) rfl (by decide) rfl E d_X12_keepsRow_1 ?_
  refine wa_sub [1, 0] rfl ?_
  exact b_X12_keepsRow_2 E hty kf_F v0 0 k_v0 σ h
/-! X12_put -/
theorem d_X12_put_0 : kf_dq cX12_put 0 2 2 (.bipush 24) := ⟨by decide +kernel, rfl⟩
theorem d_X12_put_2 : kf_dq cX12_put 2 3 1 (.istore_n 2) := ⟨by decide +kernel, rfl⟩
theorem d_X12_put_3 : kf_dq cX12_put 3 4 1 (.iload_n 2) := ⟨by decide +kernel, rfl⟩
theorem d_X12_put_4 : kf_dj cX12_put 4 7 36 (.ifCond .lt) := ⟨32, by decide +kernel, rfl, by decide⟩
theorem d_X12_put_7 : kf_dq cX12_put 7 8 1 (.aload_n 0) := ⟨by decide +kernel, rfl⟩
theorem d_X12_put_8 : kf_dq cX12_put 8 11 3 (.getfield 13) := ⟨by decide +kernel, rfl⟩
theorem d_X12_put_11 : kf_dq cX12_put 11 12 1 (.aload_n 0) := ⟨by decide +kernel, rfl⟩
theorem d_X12_put_12 : kf_dq cX12_put 12 15 3 (.getfield 166) := ⟨by decide +kernel, rfl⟩
theorem d_X12_put_15 : kf_dq cX12_put 15 16 1 (.iload_n 1) := ⟨by decide +kernel, rfl⟩
theorem d_X12_put_16 : kf_dq cX12_put 16 17 1 (.iload_n 2) := ⟨by decide +kernel, rfl⟩
theorem d_X12_put_17 : kf_dq cX12_put 17 18 1 (.ishr) := ⟨by decide +kernel, rfl⟩
theorem d_X12_put_18 : kf_dq cX12_put 18 19 1 (.i2b) := ⟨by decide +kernel, rfl⟩
theorem d_X12_put_19 : kf_dq cX12_put 19 20 1 (.bastore) := ⟨by decide +kernel, rfl⟩
theorem d_X12_put_20 : kf_dq cX12_put 20 21 1 (.aload_n 0) := ⟨by decide +kernel, rfl⟩
theorem d_X12_put_21 : kf_dq cX12_put 21 22 1 (.dup) := ⟨by decide +kernel, rfl⟩
theorem d_X12_put_22 : kf_dq cX12_put 22 25 3 (.getfield 166) := ⟨by decide +kernel, rfl⟩
theorem d_X12_put_25 : kf_dq cX12_put 25 26 1 (.iconst 1) := ⟨by decide +kernel, rfl⟩
theorem d_X12_put_26 : kf_dq cX12_put 26 27 1 (.iadd) := ⟨by decide +kernel, rfl⟩
theorem d_X12_put_27 : kf_dq cX12_put 27 30 3 (.putfield 166) := ⟨by decide +kernel, rfl⟩
theorem d_X12_put_30 : kf_dq cX12_put 30 33 3 (.iinc 2 (-8)) := ⟨by decide +kernel, rfl⟩
theorem d_X12_put_33 : kf_dj cX12_put 33 36 3 .goto := ⟨(-30), by decide +kernel, rfl, by decide⟩
theorem d_X12_put_36 : kf_dq cX12_put 36 37 1 (.return_) := ⟨by decide +kernel, rfl⟩
def f_X12_put_3_s (rec3 : Nat → Int32 → Int32 → kf_St → Option kf_St) (v0 : Nat) (v1 : Int32) (v2 : Int32) (σ : kf_St) : Option kf_St :=
  if v2 < 0 then
    some σ
  else
    if kf_ix (σ.1 v0 2) (kf_ln (kf_rf v0 1)) = true then
    kf_lt (kf_wi σ (kf_rf v0 1) (Int32.toNatClampNeg (σ.1 v0 2)) (vp_nar .byte (Int32.toInt8 (v1 >>> (v2 &&& 31))).toInt32)) fun σ_3 =>
    kf_lt (kf_wi σ_3 v0 2 ((σ_3.1 v0 2) + 1)) fun σ_4 =>
    kf_lt (v2 + (-8)) fun v2_5 =>
    rec3 v0 v1 v2_5 σ_4
    else none
def f_X12_put_3 : Nat → Nat → Int32 → Int32 → kf_St → Option kf_St
  | 0, _, _, _, _ => none
  | n + 1, v0, v1, v2, σ => f_X12_put_3_s (f_X12_put_3 n) v0 v1 v2 σ
set_option maxRecDepth 100000 in
set_option maxHeartbeats 4000000 in
theorem b_X12_put_3_s {X : kf_X} {G : kf_G} (rec3 : Nat → Int32 → Int32 → kf_St → Option kf_St) {q : kf_St} (E : kf_ok X G cX12_put RX12 3 none (1)) (hty : kf_wt G) (hrec3 : ∀ (v0 : Nat) (v1 : Int32) (v2 : Int32) (k_v0 : kf_kd G v0 = 13) (σ : kf_St), rec3 v0 v1 v2 σ = some q → kf_WA X G 3 (kf_Q X G none q) 3 [(0, .ref (kf_ad G v0)), (1, .int v1), (2, .int v2)] [] σ) (v0 : Nat) (v1 : Int32) (v2 : Int32) (k_v0 : kf_kd G v0 = 13) (σ : kf_St) (h : f_X12_put_3_s rec3 v0 v1 v2 σ = some q) : kf_WA X G 3 (kf_Q X G none q) 3 [(0, .ref (kf_ad G v0)), (1, .int v1), (2, .int v2)] [] σ := by
  unfold f_X12_put_3_s at h
  refine wa_iload_n 2 rfl E d_X12_put_3 ?_
  refine wa_if_lt E d_X12_put_4 (fun c_1 => ?_) (fun c_1 => ?_)
  · replace h := kf_ift c_1 h
    cases h
    exact wa_vret E d_X12_put_36
  · replace h := kf_iff c_1 h
    refine wa_aload_n 0 rfl E d_X12_put_7 ?_
    refine wa_getR fl_X12_13 k_v0 rfl E d_X12_put_8 ?_
    refine wa_aload_n 0 rfl E d_X12_put_11 ?_
    refine wa_getI fl_X12_166 k_v0 rfl E d_X12_put_12 ?_
    refine wa_iload_n 1 rfl E d_X12_put_15 ?_
    refine wa_iload_n 2 rfl E d_X12_put_16 ?_
    refine wa_ishr E d_X12_put_17 ?_
    refine wa_i2b E d_X12_put_18 ?_
    obtain ⟨g_2, h⟩ := kf_gd h
    obtain ⟨σ_3, eσ_3, h⟩ := kf_lte h
    refine wa_bast (kf_wtf hty 1 51 k_v0 (by decide) rfl) g_2 E d_X12_put_19 eσ_3 ?_
    refine wa_aload_n 0 rfl E d_X12_put_20 ?_
    refine wa_dup rfl E d_X12_put_21 ?_
    refine wa_getI fl_X12_166 k_v0 rfl E d_X12_put_22 ?_
    refine wa_iconst 1 ic_1 E d_X12_put_25 ?_
    refine wa_iadd E d_X12_put_26 ?_
    obtain ⟨σ_4, eσ_4, h⟩ := kf_lte h
    refine wa_putI fl_X12_166 fp_12_2 k_v0 rfl (by decide) rfl rfl E d_X12_put_27 eσ_4 ?_
    obtain ⟨v2_5, ev2_5, h⟩ := kf_lte h
    refine wa_iinc (lv' := [(2, .int v2_5), (0, .ref (kf_ad G v0)), (1, .int v1)]) v2_5 2 rfl (kf_inc ic_m8 ev2_5) (by decide) rfl E d_X12_put_30 ?_
    refine wa_goto E d_X12_put_33 ?_
    refine wa_sub [1, 2, 0] rfl ?_
    exact hrec3 v0 v1 v2_5 k_v0 σ_4 h
theorem b_X12_put_3 {X : kf_X} {G : kf_G} {q : kf_St} (E : kf_ok X G cX12_put RX12 3 none (1)) (hty : kf_wt G) : ∀ (N : Nat) (v0 : Nat) (v1 : Int32) (v2 : Int32) (k_v0 : kf_kd G v0 = 13) (σ : kf_St) (_ : f_X12_put_3 N v0 v1 v2 σ = some q), kf_WA X G 3 (kf_Q X G none q) 3 [(0, .ref (kf_ad G v0)), (1, .int v1), (2, .int v2)] [] σ
  | 0, _, _, _, _, _, h => by cases h
  | N + 1, v0, v1, v2, k_v0, σ, h => b_X12_put_3_s _ E hty (b_X12_put_3 E hty N) v0 v1 v2 k_v0 σ h
def f_X12_put (v0 : Nat) (v1 : Int32) (σ : kf_St) : Option kf_St :=
  f_X12_put_3 kf_F v0 v1 24 σ
set_option maxRecDepth 100000 in
set_option maxHeartbeats 4000000 in
theorem c_X12_put {G : kf_G} (hty : kf_wt G) (v0 : Nat) (v1 : Int32) (k_v0 : kf_kd G v0 = 13) (σ : kf_St) {q : kf_St} (h : f_X12_put v0 v1 σ = some q) : kf_Ct (1) yX12_put cX12_put 3 none G [.ref (kf_ad G v0), .int v1] σ none q := by
  refine kf_Ct.of hty.1 (lv := [(0, .ref (kf_ad G v0)), (1, .int v1)]) (by decide +kernel) rfl (Nat.le_of_ble_eq_true rfl) (fun X E => ?_)
  unfold f_X12_put at h
  refine wa_bipush 24 bp_24 E d_X12_put_0 ?_
  refine wa_istore_n (lv' := [(2, .int 24), (0, .ref (kf_ad G v0)), (1, .int v1)]) rfl (by decide) rfl E d_X12_put_2 ?_
  refine wa_sub [1, 2, 0] rfl ?_
  exact b_X12_put_3 E hty kf_F v0 v1 24 k_v0 σ h
/-! X12_feed -/
theorem d_X12_feed_0 : kf_dq cX12_feed 0 1 1 (.aload_n 0) := ⟨by decide +kernel, rfl⟩
theorem d_X12_feed_1 : kf_dq cX12_feed 1 4 3 (.getfield 166) := ⟨by decide +kernel, rfl⟩
theorem d_X12_feed_4 : kf_dq cX12_feed 4 6 2 (.bipush 20) := ⟨by decide +kernel, rfl⟩
theorem d_X12_feed_6 : kf_dq cX12_feed 6 7 1 (.iadd) := ⟨by decide +kernel, rfl⟩
theorem d_X12_feed_7 : kf_dq cX12_feed 7 10 3 (.sipush 2000) := ⟨by decide +kernel, rfl⟩
theorem d_X12_feed_10 : kf_dj cX12_feed 10 13 15 (.if_icmp .le) := ⟨5, by decide +kernel, rfl, by decide⟩
theorem d_X12_feed_13 : kf_dq cX12_feed 13 14 1 (.iconst (-1)) := ⟨by decide +kernel, rfl⟩
theorem d_X12_feed_14 : kf_dq cX12_feed 14 15 1 (.ireturn) := ⟨by decide +kernel, rfl⟩
theorem d_X12_feed_15 : kf_dq cX12_feed 15 16 1 (.aload_n 0) := ⟨by decide +kernel, rfl⟩
theorem d_X12_feed_16 : kf_dq cX12_feed 16 17 1 (.iload_n 1) := ⟨by decide +kernel, rfl⟩
theorem d_X12_feed_17 : kf_dq cX12_feed 17 20 3 (.invokevirtual 169) := ⟨by decide +kernel, rfl⟩
theorem d_X12_feed_20 : kf_dq cX12_feed 20 21 1 (.aload_n 0) := ⟨by decide +kernel, rfl⟩
theorem d_X12_feed_21 : kf_dq cX12_feed 21 22 1 (.iload_n 2) := ⟨by decide +kernel, rfl⟩
theorem d_X12_feed_22 : kf_dq cX12_feed 22 25 3 (.invokevirtual 169) := ⟨by decide +kernel, rfl⟩
theorem d_X12_feed_25 : kf_dq cX12_feed 25 26 1 (.aload_n 0) := ⟨by decide +kernel, rfl⟩
theorem d_X12_feed_26 : kf_dq cX12_feed 26 27 1 (.iload_n 3) := ⟨by decide +kernel, rfl⟩
theorem d_X12_feed_27 : kf_dq cX12_feed 27 30 3 (.invokevirtual 169) := ⟨by decide +kernel, rfl⟩
theorem d_X12_feed_30 : kf_dq cX12_feed 30 31 1 (.aload_n 0) := ⟨by decide +kernel, rfl⟩
theorem d_X12_feed_31 : kf_dq cX12_feed 31 33 2 (.iload 4) := ⟨by decide +kernel, rfl⟩
theorem d_X12_feed_33 : kf_dq cX12_feed 33 36 3 (.invokevirtual 169) := ⟨by decide +kernel, rfl⟩
theorem d_X12_feed_36 : kf_dq cX12_feed 36 37 1 (.aload_n 0) := ⟨by decide +kernel, rfl⟩
theorem d_X12_feed_37 : kf_dq cX12_feed 37 39 2 (.iload 5) := ⟨by decide +kernel, rfl⟩
theorem d_X12_feed_39 : kf_dq cX12_feed 39 42 3 (.invokevirtual 169) := ⟨by decide +kernel, rfl⟩
theorem d_X12_feed_42 : kf_dq cX12_feed 42 43 1 (.aload_n 0) := ⟨by decide +kernel, rfl⟩
theorem d_X12_feed_43 : kf_dq cX12_feed 43 46 3 (.getfield 166) := ⟨by decide +kernel, rfl⟩
theorem d_X12_feed_46 : kf_dq cX12_feed 46 47 1 (.ireturn) := ⟨by decide +kernel, rfl⟩
def f_X12_feed (v0 : Nat) (v1 : Int32) (v2 : Int32) (v3 : Int32) (v4 : Int32) (v5 : Int32) (σ : kf_St) : Option (Int32 × kf_St) :=
  if ((σ.1 v0 2) + 20) ≤ 2000 then
    (f_X12_put v0 v1 σ).bind fun q_2 =>
    (f_X12_put v0 v2 q_2).bind fun q_3 =>
    (f_X12_put v0 v3 q_3).bind fun q_4 =>
    (f_X12_put v0 v4 q_4).bind fun q_5 =>
    (f_X12_put v0 v5 q_5).bind fun q_6 =>
    some ((q_6.1 v0 2), q_6)
  else
    some ((-1), σ)
set_option maxRecDepth 100000 in
set_option maxHeartbeats 4000000 in
theorem c_X12_feed {G : kf_G} (hty : kf_wt G) (v0 : Nat) (v1 : Int32) (v2 : Int32) (v3 : Int32) (v4 : Int32) (v5 : Int32) (k_v0 : kf_kd G v0 = 13) (σ : kf_St) {q : (Int32 × kf_St)} (h : f_X12_feed v0 v1 v2 v3 v4 v5 σ = some q) : kf_Ct (2) yX12_feed cX12_feed 6 (some .int) G [.ref (kf_ad G v0), .int v1, .int v2, .int v3, .int v4, .int v5] σ (some (.int q.1)) q.2 := by
  refine kf_Ct.of hty.1 (lv := [(0, .ref (kf_ad G v0)), (1, .int v1), (2, .int v2), (3, .int v3), (4, .int v4), (5, .int v5)]) (by decide +kernel) rfl (Nat.le_of_ble_eq_true rfl) (fun X E => ?_)
  unfold f_X12_feed at h
  refine wa_aload_n 0 rfl E d_X12_feed_0 ?_
  refine wa_getI fl_X12_166 k_v0 rfl E d_X12_feed_1 ?_
  refine wa_bipush 20 bp_20 E d_X12_feed_4 ?_
  refine wa_iadd E d_X12_feed_6 ?_
  refine wa_sipush 2000 sp_2000 E d_X12_feed_7 ?_
  refine wa_icmp_le E d_X12_feed_10 (fun c_1 => ?_) (fun c_1 => ?_)
  · replace h := kf_ift c_1 h
    refine wa_aload_n 0 rfl E d_X12_feed_15 ?_
    refine wa_iload_n 1 rfl E d_X12_feed_16 ?_
    obtain ⟨q_2, hq_2, h⟩ := kf_bd h
    refine wa_callV (st2 := []) (c_X12_put hty v0 v1 k_v0 σ hq_2) mv_X12_put ml_X12_169 k_v0 rfl (Nat.le_of_ble_eq_true rfl) rfl (Nat.le_of_ble_eq_true rfl) E d_X12_feed_17 rfl ?_
    refine wa_aload_n 0 rfl E d_X12_feed_20 ?_
    refine wa_iload_n 2 rfl E d_X12_feed_21 ?_
    obtain ⟨q_3, hq_3, h⟩ := kf_bd h
    refine wa_callV (st2 := []) (c_X12_put hty v0 v2 k_v0 q_2 hq_3) mv_X12_put ml_X12_169 k_v0 rfl (Nat.le_of_ble_eq_true rfl) rfl (Nat.le_of_ble_eq_true rfl) E d_X12_feed_22 rfl ?_
    refine wa_aload_n 0 rfl E d_X12_feed_25 ?_
    refine wa_iload_n 3 rfl E d_X12_feed_26 ?_
    obtain ⟨q_4, hq_4, h⟩ := kf_bd h
    refine wa_callV (st2 := []) (c_X12_put hty v0 v3 k_v0 q_3 hq_4) mv_X12_put ml_X12_169 k_v0 rfl (Nat.le_of_ble_eq_true rfl) rfl (Nat.le_of_ble_eq_true rfl) E d_X12_feed_27 rfl ?_
    refine wa_aload_n 0 rfl E d_X12_feed_30 ?_
    refine wa_iload 4 rfl E d_X12_feed_31 ?_
    obtain ⟨q_5, hq_5, h⟩ := kf_bd h
    refine wa_callV (st2 := []) (c_X12_put hty v0 v4 k_v0 q_4 hq_5) mv_X12_put ml_X12_169 k_v0 rfl (Nat.le_of_ble_eq_true rfl) rfl (Nat.le_of_ble_eq_true rfl) E d_X12_feed_33 rfl ?_
    refine wa_aload_n 0 rfl E d_X12_feed_36 ?_
    refine wa_iload 5 rfl E d_X12_feed_37 ?_
    obtain ⟨q_6, hq_6, h⟩ := kf_bd h
    refine wa_callV (st2 := []) (c_X12_put hty v0 v5 k_v0 q_5 hq_6) mv_X12_put ml_X12_169 k_v0 rfl (Nat.le_of_ble_eq_true rfl) rfl (Nat.le_of_ble_eq_true rfl) E d_X12_feed_39 rfl ?_
    refine wa_aload_n 0 rfl E d_X12_feed_42 ?_
    refine wa_getI fl_X12_166 k_v0 rfl E d_X12_feed_43 ?_
    cases h
    exact wa_iret E d_X12_feed_46
  · replace h := kf_iff c_1 h
    refine wa_iconst (-1) ic_m1 E d_X12_feed_13 ?_
    cases h
    exact wa_iret E d_X12_feed_14
/-! X12_back -/
theorem d_X12_back_0 : kf_dq cX12_back 0 1 1 (.iload_n 1) := ⟨by decide +kernel, rfl⟩
theorem d_X12_back_1 : kf_dj cX12_back 1 4 12 (.ifCond .lt) := ⟨11, by decide +kernel, rfl, by decide⟩
theorem d_X12_back_4 : kf_dq cX12_back 4 5 1 (.iload_n 1) := ⟨by decide +kernel, rfl⟩
theorem d_X12_back_5 : kf_dq cX12_back 5 6 1 (.aload_n 0) := ⟨by decide +kernel, rfl⟩
theorem d_X12_back_6 : kf_dq cX12_back 6 9 3 (.getfield 166) := ⟨by decide +kernel, rfl⟩
theorem d_X12_back_9 : kf_dj cX12_back 9 12 14 (.if_icmp .le) := ⟨5, by decide +kernel, rfl, by decide⟩
theorem d_X12_back_12 : kf_dq cX12_back 12 13 1 (.iconst (-1)) := ⟨by decide +kernel, rfl⟩
theorem d_X12_back_13 : kf_dq cX12_back 13 14 1 (.ireturn) := ⟨by decide +kernel, rfl⟩
theorem d_X12_back_14 : kf_dq cX12_back 14 15 1 (.aload_n 0) := ⟨by decide +kernel, rfl⟩
theorem d_X12_back_15 : kf_dq cX12_back 15 16 1 (.dup) := ⟨by decide +kernel, rfl⟩
theorem d_X12_back_16 : kf_dq cX12_back 16 19 3 (.getfield 166) := ⟨by decide +kernel, rfl⟩
theorem d_X12_back_19 : kf_dq cX12_back 19 20 1 (.iload_n 1) := ⟨by decide +kernel, rfl⟩
theorem d_X12_back_20 : kf_dq cX12_back 20 21 1 (.isub) := ⟨by decide +kernel, rfl⟩
theorem d_X12_back_21 : kf_dq cX12_back 21 24 3 (.putfield 166) := ⟨by decide +kernel, rfl⟩
theorem d_X12_back_24 : kf_dq cX12_back 24 25 1 (.aload_n 0) := ⟨by decide +kernel, rfl⟩
theorem d_X12_back_25 : kf_dq cX12_back 25 28 3 (.getfield 166) := ⟨by decide +kernel, rfl⟩
theorem d_X12_back_28 : kf_dq cX12_back 28 29 1 (.ireturn) := ⟨by decide +kernel, rfl⟩
def f_X12_back (v0 : Nat) (v1 : Int32) (σ : kf_St) : Option (Int32 × kf_St) :=
  if v1 < 0 then
    some ((-1), σ)
  else
    if v1 ≤ (σ.1 v0 2) then
      kf_lt (kf_wi σ v0 2 ((σ.1 v0 2) - v1)) fun σ_3 =>
      some ((σ_3.1 v0 2), σ_3)
    else
      some ((-1), σ)
set_option maxRecDepth 100000 in
set_option maxHeartbeats 4000000 in
theorem c_X12_back {G : kf_G} (hty : kf_wt G) (v0 : Nat) (v1 : Int32) (k_v0 : kf_kd G v0 = 13) (σ : kf_St) {q : (Int32 × kf_St)} (h : f_X12_back v0 v1 σ = some q) : kf_Ct (1) yX12_back cX12_back 2 (some .int) G [.ref (kf_ad G v0), .int v1] σ (some (.int q.1)) q.2 := by
  refine kf_Ct.of hty.1 (lv := [(0, .ref (kf_ad G v0)), (1, .int v1)]) (by decide +kernel) rfl (Nat.le_of_ble_eq_true rfl) (fun X E => ?_)
  unfold f_X12_back at h
  refine wa_iload_n 1 rfl E d_X12_back_0 ?_
  refine wa_if_lt E d_X12_back_1 (fun c_1 => ?_) (fun c_1 => ?_)
  · replace h := kf_ift c_1 h
    refine wa_iconst (-1) ic_m1 E d_X12_back_12 ?_
    cases h
    exact wa_iret E d_X12_back_13
  · replace h := kf_iff c_1 h
    refine wa_iload_n 1 rfl E d_X12_back_4 ?_
    refine wa_aload_n 0 rfl E d_X12_back_5 ?_
    refine wa_getI fl_X12_166 k_v0 rfl E d_X12_back_6 ?_
    refine wa_icmp_le E d_X12_back_9 (fun c_2 => ?_) (fun c_2 => ?_)
    · replace h := kf_ift c_2 h
      refine wa_aload_n 0 rfl E d_X12_back_14 ?_
      refine wa_dup rfl E d_X12_back_15 ?_
      refine wa_getI fl_X12_166 k_v0 rfl E d_X12_back_16 ?_
      refine wa_iload_n 1 rfl E d_X12_back_19 ?_
      refine wa_isub E d_X12_back_20 ?_
      obtain ⟨σ_3, eσ_3, h⟩ := kf_lte h
      refine wa_putI fl_X12_166 fp_12_2 k_v0 rfl (by decide) rfl rfl E d_X12_back_21 eσ_3 ?_
      refine wa_aload_n 0 rfl E d_X12_back_24 ?_
      refine wa_getI fl_X12_166 k_v0 rfl E d_X12_back_25 ?_
      cases h
      exact wa_iret E d_X12_back_28
    · replace h := kf_iff c_2 h
      refine wa_iconst (-1) ic_m1 E d_X12_back_12 ?_
      cases h
      exact wa_iret E d_X12_back_13
/-! X12_byteAt -/
theorem d_X12_byteAt_0 : kf_dq cX12_byteAt 0 1 1 (.iload_n 1) := ⟨by decide +kernel, rfl⟩
theorem d_X12_byteAt_1 : kf_dq cX12_byteAt 1 2 1 (.aload_n 0) := ⟨by decide +kernel, rfl⟩
theorem d_X12_byteAt_2 : kf_dq cX12_byteAt 2 5 3 (.getfield 172) := ⟨by decide +kernel, rfl⟩
theorem d_X12_byteAt_5 : kf_dj cX12_byteAt 5 8 21 (.if_icmp .ge) := ⟨16, by decide +kernel, rfl, by decide⟩
theorem d_X12_byteAt_8 : kf_dq cX12_byteAt 8 9 1 (.aload_n 0) := ⟨by decide +kernel, rfl⟩
theorem d_X12_byteAt_9 : kf_dq cX12_byteAt 9 12 3 (.getfield 17) := ⟨by decide +kernel, rfl⟩
theorem d_X12_byteAt_12 : kf_dq cX12_byteAt 12 13 1 (.iload_n 1) := ⟨by decide +kernel, rfl⟩
theorem d_X12_byteAt_13 : kf_dq cX12_byteAt 13 14 1 (.baload) := ⟨by decide +kernel, rfl⟩
theorem d_X12_byteAt_14 : kf_dq cX12_byteAt 14 17 3 (.sipush 255) := ⟨by decide +kernel, rfl⟩
theorem d_X12_byteAt_17 : kf_dq cX12_byteAt 17 18 1 (.iand) := ⟨by decide +kernel, rfl⟩
theorem d_X12_byteAt_18 : kf_dj cX12_byteAt 18 21 22 .goto := ⟨4, by decide +kernel, rfl, by decide⟩
theorem d_X12_byteAt_21 : kf_dq cX12_byteAt 21 22 1 (.iconst 0) := ⟨by decide +kernel, rfl⟩
theorem d_X12_byteAt_22 : kf_dq cX12_byteAt 22 23 1 (.ireturn) := ⟨by decide +kernel, rfl⟩
def f_X12_byteAt (v0 : Nat) (v1 : Int32) (σ : kf_St) : Option (Int32 × kf_St) :=
  if (σ.1 v0 4) ≤ v1 then
    some (0, σ)
  else
    if kf_ix v1 (kf_ln (kf_rf v0 3)) = true then
    some (((σ.1 (kf_rf v0 3) (Int32.toNatClampNeg v1)) &&& 255), σ)
    else none
set_option maxRecDepth 100000 in
set_option maxHeartbeats 4000000 in
theorem c_X12_byteAt {G : kf_G} (hty : kf_wt G) (v0 : Nat) (v1 : Int32) (k_v0 : kf_kd G v0 = 13) (σ : kf_St) {q : (Int32 × kf_St)} (h : f_X12_byteAt v0 v1 σ = some q) : kf_Ct (1) yX12_byteAt cX12_byteAt 2 (some .int) G [.ref (kf_ad G v0), .int v1] σ (some (.int q.1)) q.2 := by
  refine kf_Ct.of hty.1 (lv := [(0, .ref (kf_ad G v0)), (1, .int v1)]) (by decide +kernel) rfl (Nat.le_of_ble_eq_true rfl) (fun X E => ?_)
  unfold f_X12_byteAt at h
  refine wa_iload_n 1 rfl E d_X12_byteAt_0 ?_
  refine wa_aload_n 0 rfl E d_X12_byteAt_1 ?_
  refine wa_getI fl_X12_172 k_v0 rfl E d_X12_byteAt_2 ?_
  refine wa_icmp_ge E d_X12_byteAt_5 (fun c_1 => ?_) (fun c_1 => ?_)
  · replace h := kf_ift c_1 h
    refine wa_iconst 0 ic_0 E d_X12_byteAt_21 ?_
    cases h
    exact wa_iret E d_X12_byteAt_22
  · replace h := kf_iff c_1 h
    refine wa_aload_n 0 rfl E d_X12_byteAt_8 ?_
    refine wa_getR fl_X12_17 k_v0 rfl E d_X12_byteAt_9 ?_
    refine wa_iload_n 1 rfl E d_X12_byteAt_12 ?_
    obtain ⟨g_2, h⟩ := kf_gd h
    refine wa_bald (kf_wtf hty 3 51 k_v0 (by decide) rfl) g_2 E d_X12_byteAt_13 ?_
    refine wa_sipush 255 sp_255 E d_X12_byteAt_14 ?_
    refine wa_iand E d_X12_byteAt_17 ?_
    refine wa_goto E d_X12_byteAt_18 ?_
    cases h
    exact wa_iret E d_X12_byteAt_22
/-! X12_isDigit -/
theorem d_X12_isDigit_0 : kf_dq cX12_isDigit 0 1 1 (.iload_n 0) := ⟨by decide +kernel, rfl⟩
theorem d_X12_isDigit_1 : kf_dq cX12_isDigit 1 3 2 (.bipush 48) := ⟨by decide +kernel, rfl⟩
theorem d_X12_isDigit_3 : kf_dj cX12_isDigit 3 6 16 (.if_icmp .lt) := ⟨13, by decide +kernel, rfl, by decide⟩
theorem d_X12_isDigit_6 : kf_dq cX12_isDigit 6 7 1 (.iload_n 0) := ⟨by decide +kernel, rfl⟩
theorem d_X12_isDigit_7 : kf_dq cX12_isDigit 7 9 2 (.bipush 57) := ⟨by decide +kernel, rfl⟩
theorem d_X12_isDigit_9 : kf_dj cX12_isDigit 9 12 16 (.if_icmp .gt) := ⟨7, by decide +kernel, rfl, by decide⟩
theorem d_X12_isDigit_12 : kf_dq cX12_isDigit 12 13 1 (.iconst 1) := ⟨by decide +kernel, rfl⟩
theorem d_X12_isDigit_13 : kf_dj cX12_isDigit 13 16 17 .goto := ⟨4, by decide +kernel, rfl, by decide⟩
theorem d_X12_isDigit_16 : kf_dq cX12_isDigit 16 17 1 (.iconst 0) := ⟨by decide +kernel, rfl⟩
theorem d_X12_isDigit_17 : kf_dq cX12_isDigit 17 18 1 (.ireturn) := ⟨by decide +kernel, rfl⟩
def f_X12_isDigit (v0 : Int32) (σ : kf_St) : Option (Int32 × kf_St) :=
  if v0 < 48 then
    some (0, σ)
  else
    if 57 < v0 then
      some (0, σ)
    else
      some (1, σ)
set_option maxRecDepth 100000 in
set_option maxHeartbeats 4000000 in
theorem c_X12_isDigit {G : kf_G} (hty : kf_wt G) (v0 : Int32) (σ : kf_St) {q : (Int32 × kf_St)} (h : f_X12_isDigit v0 σ = some q) : kf_Ct (1) yX12_isDigit cX12_isDigit 1 (some .boolean) G [.int v0] σ (some (.int q.1)) q.2 := by
  refine kf_Ct.of hty.1 (lv := [(0, .int v0)]) (by decide +kernel) rfl (Nat.le_of_ble_eq_true rfl) (fun X E => ?_)
  unfold f_X12_isDigit at h
  refine wa_iload_n 0 rfl E d_X12_isDigit_0 ?_
  refine wa_bipush 48 bp_48 E d_X12_isDigit_1 ?_
  refine wa_icmp_lt E d_X12_isDigit_3 (fun c_1 => ?_) (fun c_1 => ?_)
  · replace h := kf_ift c_1 h
    refine wa_iconst 0 ic_0 E d_X12_isDigit_16 ?_
    cases h
    exact wa_zret kf_z0 E d_X12_isDigit_17
  · replace h := kf_iff c_1 h
    refine wa_iload_n 0 rfl E d_X12_isDigit_6 ?_
    refine wa_bipush 57 bp_57 E d_X12_isDigit_7 ?_
    refine wa_icmp_gt E d_X12_isDigit_9 (fun c_2 => ?_) (fun c_2 => ?_)
    · replace h := kf_ift c_2 h
      refine wa_iconst 0 ic_0 E d_X12_isDigit_16 ?_
      cases h
      exact wa_zret kf_z0 E d_X12_isDigit_17
    · replace h := kf_iff c_2 h
      refine wa_iconst 1 ic_1 E d_X12_isDigit_12 ?_
      refine wa_goto E d_X12_isDigit_13 ?_
      cases h
      exact wa_zret kf_z1 E d_X12_isDigit_17
/-! X12_isLetter -/
theorem d_X12_isLetter_0 : kf_dq cX12_isLetter 0 1 1 (.iload_n 0) := ⟨by decide +kernel, rfl⟩
theorem d_X12_isLetter_1 : kf_dq cX12_isLetter 1 3 2 (.bipush 97) := ⟨by decide +kernel, rfl⟩
theorem d_X12_isLetter_3 : kf_dj cX12_isLetter 3 6 16 (.if_icmp .lt) := ⟨13, by decide +kernel, rfl, by decide⟩
theorem d_X12_isLetter_6 : kf_dq cX12_isLetter 6 7 1 (.iload_n 0) := ⟨by decide +kernel, rfl⟩
theorem d_X12_isLetter_7 : kf_dq cX12_isLetter 7 9 2 (.bipush 122) := ⟨by decide +kernel, rfl⟩
theorem d_X12_isLetter_9 : kf_dj cX12_isLetter 9 12 16 (.if_icmp .gt) := ⟨7, by decide +kernel, rfl, by decide⟩
theorem d_X12_isLetter_12 : kf_dq cX12_isLetter 12 13 1 (.iconst 1) := ⟨by decide +kernel, rfl⟩
theorem d_X12_isLetter_13 : kf_dj cX12_isLetter 13 16 17 .goto := ⟨4, by decide +kernel, rfl, by decide⟩
theorem d_X12_isLetter_16 : kf_dq cX12_isLetter 16 17 1 (.iconst 0) := ⟨by decide +kernel, rfl⟩
theorem d_X12_isLetter_17 : kf_dq cX12_isLetter 17 18 1 (.ireturn) := ⟨by decide +kernel, rfl⟩
def f_X12_isLetter (v0 : Int32) (σ : kf_St) : Option (Int32 × kf_St) :=
  if v0 < 97 then
    some (0, σ)
  else
    if 122 < v0 then
      some (0, σ)
    else
      some (1, σ)
set_option maxRecDepth 100000 in
set_option maxHeartbeats 4000000 in
theorem c_X12_isLetter {G : kf_G} (hty : kf_wt G) (v0 : Int32) (σ : kf_St) {q : (Int32 × kf_St)} (h : f_X12_isLetter v0 σ = some q) : kf_Ct (1) yX12_isLetter cX12_isLetter 1 (some .boolean) G [.int v0] σ (some (.int q.1)) q.2 := by
  refine kf_Ct.of hty.1 (lv := [(0, .int v0)]) (by decide +kernel) rfl (Nat.le_of_ble_eq_true rfl) (fun X E => ?_)
  unfold f_X12_isLetter at h
  refine wa_iload_n 0 rfl E d_X12_isLetter_0 ?_
  refine wa_bipush 97 bp_97 E d_X12_isLetter_1 ?_
  refine wa_icmp_lt E d_X12_isLetter_3 (fun c_1 => ?_) (fun c_1 => ?_)
  · replace h := kf_ift c_1 h
    refine wa_iconst 0 ic_0 E d_X12_isLetter_16 ?_
    cases h
    exact wa_zret kf_z0 E d_X12_isLetter_17
  · replace h := kf_iff c_1 h
    refine wa_iload_n 0 rfl E d_X12_isLetter_6 ?_
    refine wa_bipush 122 bp_122 E d_X12_isLetter_7 ?_
    refine wa_icmp_gt E d_X12_isLetter_9 (fun c_2 => ?_) (fun c_2 => ?_)
    · replace h := kf_ift c_2 h
      refine wa_iconst 0 ic_0 E d_X12_isLetter_16 ?_
      cases h
      exact wa_zret kf_z0 E d_X12_isLetter_17
    · replace h := kf_iff c_2 h
      refine wa_iconst 1 ic_1 E d_X12_isLetter_12 ?_
      refine wa_goto E d_X12_isLetter_13 ?_
      cases h
      exact wa_zret kf_z1 E d_X12_isLetter_17
/-! X12_token -/
theorem d_X12_token_0 : kf_dq cX12_token 0 1 1 (.aload_n 0) := ⟨by decide +kernel, rfl⟩
theorem d_X12_token_1 : kf_dq cX12_token 1 4 3 (.getfield 20) := ⟨by decide +kernel, rfl⟩
theorem d_X12_token_4 : kf_dq cX12_token 4 5 1 (.aload_n 0) := ⟨by decide +kernel, rfl⟩
theorem d_X12_token_5 : kf_dq cX12_token 5 8 3 (.getfield 181) := ⟨by decide +kernel, rfl⟩
theorem d_X12_token_8 : kf_dq cX12_token 8 9 1 (.iload_n 1) := ⟨by decide +kernel, rfl⟩
theorem d_X12_token_9 : kf_dq cX12_token 9 10 1 (.iastore) := ⟨by decide +kernel, rfl⟩
theorem d_X12_token_10 : kf_dq cX12_token 10 11 1 (.aload_n 0) := ⟨by decide +kernel, rfl⟩
theorem d_X12_token_11 : kf_dq cX12_token 11 14 3 (.getfield 24) := ⟨by decide +kernel, rfl⟩
theorem d_X12_token_14 : kf_dq cX12_token 14 15 1 (.aload_n 0) := ⟨by decide +kernel, rfl⟩
theorem d_X12_token_15 : kf_dq cX12_token 15 18 3 (.getfield 181) := ⟨by decide +kernel, rfl⟩
theorem d_X12_token_18 : kf_dq cX12_token 18 19 1 (.iload_n 2) := ⟨by decide +kernel, rfl⟩
theorem d_X12_token_19 : kf_dq cX12_token 19 20 1 (.iastore) := ⟨by decide +kernel, rfl⟩
theorem d_X12_token_20 : kf_dq cX12_token 20 21 1 (.aload_n 0) := ⟨by decide +kernel, rfl⟩
theorem d_X12_token_21 : kf_dq cX12_token 21 24 3 (.getfield 27) := ⟨by decide +kernel, rfl⟩
theorem d_X12_token_24 : kf_dq cX12_token 24 25 1 (.aload_n 0) := ⟨by decide +kernel, rfl⟩
theorem d_X12_token_25 : kf_dq cX12_token 25 28 3 (.getfield 181) := ⟨by decide +kernel, rfl⟩
theorem d_X12_token_28 : kf_dq cX12_token 28 29 1 (.iload_n 3) := ⟨by decide +kernel, rfl⟩
theorem d_X12_token_29 : kf_dq cX12_token 29 30 1 (.iastore) := ⟨by decide +kernel, rfl⟩
theorem d_X12_token_30 : kf_dq cX12_token 30 31 1 (.aload_n 0) := ⟨by decide +kernel, rfl⟩
theorem d_X12_token_31 : kf_dq cX12_token 31 34 3 (.getfield 30) := ⟨by decide +kernel, rfl⟩
theorem d_X12_token_34 : kf_dq cX12_token 34 35 1 (.aload_n 0) := ⟨by decide +kernel, rfl⟩
theorem d_X12_token_35 : kf_dq cX12_token 35 38 3 (.getfield 181) := ⟨by decide +kernel, rfl⟩
theorem d_X12_token_38 : kf_dq cX12_token 38 40 2 (.lload 4) := ⟨by decide +kernel, rfl⟩
theorem d_X12_token_40 : kf_dq cX12_token 40 41 1 (.lastore) := ⟨by decide +kernel, rfl⟩
theorem d_X12_token_41 : kf_dq cX12_token 41 42 1 (.aload_n 0) := ⟨by decide +kernel, rfl⟩
theorem d_X12_token_42 : kf_dq cX12_token 42 43 1 (.dup) := ⟨by decide +kernel, rfl⟩
theorem d_X12_token_43 : kf_dq cX12_token 43 46 3 (.getfield 181) := ⟨by decide +kernel, rfl⟩
theorem d_X12_token_46 : kf_dq cX12_token 46 47 1 (.iconst 1) := ⟨by decide +kernel, rfl⟩
theorem d_X12_token_47 : kf_dq cX12_token 47 48 1 (.iadd) := ⟨by decide +kernel, rfl⟩
theorem d_X12_token_48 : kf_dq cX12_token 48 51 3 (.putfield 181) := ⟨by decide +kernel, rfl⟩
theorem d_X12_token_51 : kf_dq cX12_token 51 52 1 (.return_) := ⟨by decide +kernel, rfl⟩
def f_X12_token (v0 : Nat) (v1 : Int32) (v2 : Int32) (v3 : Int32) (v4 : Int64) (σ : kf_St) : Option kf_St :=
  if kf_ix (σ.1 v0 10) (kf_ln (kf_rf v0 5)) = true then
  kf_lt (kf_wi σ (kf_rf v0 5) (Int32.toNatClampNeg (σ.1 v0 10)) v1) fun σ_2 =>
  if kf_ix (σ_2.1 v0 10) (kf_ln (kf_rf v0 6)) = true then
  kf_lt (kf_wi σ_2 (kf_rf v0 6) (Int32.toNatClampNeg (σ_2.1 v0 10)) v2) fun σ_4 =>
  if kf_ix (σ_4.1 v0 10) (kf_ln (kf_rf v0 7)) = true then
  kf_lt (kf_wi σ_4 (kf_rf v0 7) (Int32.toNatClampNeg (σ_4.1 v0 10)) v3) fun σ_6 =>
  if kf_ix (σ_6.1 v0 10) (kf_ln (kf_rf v0 8)) = true then
  kf_lt (kf_wl σ_6 (kf_rf v0 8) (Int32.toNatClampNeg (σ_6.1 v0 10)) v4) fun σ_8 =>
  kf_lt (kf_wi σ_8 v0 10 ((σ_8.1 v0 10) + 1)) fun σ_9 =>
  some σ_9
  else none
  else none
  else none
  else none
set_option maxRecDepth 100000 in
set_option maxHeartbeats 4000000 in
theorem c_X12_token {G : kf_G} (hty : kf_wt G) (v0 : Nat) (v1 : Int32) (v2 : Int32) (v3 : Int32) (v4 : Int64) (k_v0 : kf_kd G v0 = 13) (σ : kf_St) {q : kf_St} (h : f_X12_token v0 v1 v2 v3 v4 σ = some q) : kf_Ct (1) yX12_token cX12_token 6 none G [.ref (kf_ad G v0), .int v1, .int v2, .int v3, .long v4] σ none q := by
  refine kf_Ct.of hty.1 (lv := [(0, .ref (kf_ad G v0)), (1, .int v1), (2, .int v2), (3, .int v3), (4, .long v4)]) (by decide +kernel) rfl (Nat.le_of_ble_eq_true rfl) (fun X E => ?_)
  unfold f_X12_token at h
  refine wa_aload_n 0 rfl E d_X12_token_0 ?_
  refine wa_getR fl_X12_20 k_v0 rfl E d_X12_token_1 ?_
  refine wa_aload_n 0 rfl E d_X12_token_4 ?_
  refine wa_getI fl_X12_181 k_v0 rfl E d_X12_token_5 ?_
  refine wa_iload_n 1 rfl E d_X12_token_8 ?_
  obtain ⟨g_1, h⟩ := kf_gd h
  obtain ⟨σ_2, eσ_2, h⟩ := kf_lte h
  refine wa_iast (kf_wtf hty 5 49 k_v0 (by decide) rfl) g_1 E d_X12_token_9 eσ_2 ?_
  refine wa_aload_n 0 rfl E d_X12_token_10 ?_
  refine wa_getR fl_X12_24 k_v0 rfl E d_X12_token_11 ?_
  refine wa_aload_n 0 rfl E d_X12_token_14 ?_
  refine wa_getI fl_X12_181 k_v0 rfl E d_X12_token_15 ?_
  refine wa_iload_n 2 rfl E d_X12_token_18 ?_
  obtain ⟨g_3, h⟩ := kf_gd h
  obtain ⟨σ_4, eσ_4, h⟩ := kf_lte h
  refine wa_iast (kf_wtf hty 6 49 k_v0 (by decide) rfl) g_3 E d_X12_token_19 eσ_4 ?_
  refine wa_aload_n 0 rfl E d_X12_token_20 ?_
  refine wa_getR fl_X12_27 k_v0 rfl E d_X12_token_21 ?_
  refine wa_aload_n 0 rfl E d_X12_token_24 ?_
  refine wa_getI fl_X12_181 k_v0 rfl E d_X12_token_25 ?_
  refine wa_iload_n 3 rfl E d_X12_token_28 ?_
  obtain ⟨g_5, h⟩ := kf_gd h
  obtain ⟨σ_6, eσ_6, h⟩ := kf_lte h
  refine wa_iast (kf_wtf hty 7 49 k_v0 (by decide) rfl) g_5 E d_X12_token_29 eσ_6 ?_
  refine wa_aload_n 0 rfl E d_X12_token_30 ?_
  refine wa_getR fl_X12_30 k_v0 rfl E d_X12_token_31 ?_
  refine wa_aload_n 0 rfl E d_X12_token_34 ?_
  refine wa_getI fl_X12_181 k_v0 rfl E d_X12_token_35 ?_
  refine wa_lload 4 rfl E d_X12_token_38 ?_
  obtain ⟨g_7, h⟩ := kf_gd h
  obtain ⟨σ_8, eσ_8, h⟩ := kf_lte h
  refine wa_last (kf_wtf hty 8 50 k_v0 (by decide) rfl) g_7 E d_X12_token_40 eσ_8 ?_
  refine wa_aload_n 0 rfl E d_X12_token_41 ?_
  refine wa_dup rfl E d_X12_token_42 ?_
  refine wa_getI fl_X12_181 k_v0 rfl E d_X12_token_43 ?_
  refine wa_iconst 1 ic_1 E d_X12_token_46 ?_
  refine wa_iadd E d_X12_token_47 ?_
  obtain ⟨σ_9, eσ_9, h⟩ := kf_lte h
  refine wa_putI fl_X12_181 fp_12_10 k_v0 rfl (by decide) rfl rfl E d_X12_token_48 eσ_9 ?_
  cases h
  exact wa_vret E d_X12_token_51
/-! X12_sign -/
theorem d_X12_sign_0 : kf_dq cX12_sign 0 1 1 (.iload_n 2) := ⟨by decide +kernel, rfl⟩
theorem d_X12_sign_1 : kf_dq cX12_sign 1 3 2 (.bipush 59) := ⟨by decide +kernel, rfl⟩
theorem d_X12_sign_3 : kf_dj cX12_sign 3 6 10 (.if_icmp .ne) := ⟨7, by decide +kernel, rfl, by decide⟩
theorem d_X12_sign_6 : kf_dq cX12_sign 6 7 1 (.iconst 4) := ⟨by decide +kernel, rfl⟩
theorem d_X12_sign_7 : kf_dj cX12_sign 7 10 43 .goto := ⟨36, by decide +kernel, rfl, by decide⟩
theorem d_X12_sign_10 : kf_dq cX12_sign 10 11 1 (.iload_n 2) := ⟨by decide +kernel, rfl⟩
theorem d_X12_sign_11 : kf_dq cX12_sign 11 13 2 (.bipush 61) := ⟨by decide +kernel, rfl⟩
theorem d_X12_sign_13 : kf_dj cX12_sign 13 16 20 (.if_icmp .ne) := ⟨7, by decide +kernel, rfl, by decide⟩
theorem d_X12_sign_16 : kf_dq cX12_sign 16 17 1 (.iconst 5) := ⟨by decide +kernel, rfl⟩
theorem d_X12_sign_17 : kf_dj cX12_sign 17 20 43 .goto := ⟨26, by decide +kernel, rfl, by decide⟩
theorem d_X12_sign_20 : kf_dq cX12_sign 20 21 1 (.iload_n 2) := ⟨by decide +kernel, rfl⟩
theorem d_X12_sign_21 : kf_dq cX12_sign 21 23 2 (.bipush 40) := ⟨by decide +kernel, rfl⟩
theorem d_X12_sign_23 : kf_dj cX12_sign 23 26 31 (.if_icmp .ne) := ⟨8, by decide +kernel, rfl, by decide⟩
theorem d_X12_sign_26 : kf_dq cX12_sign 26 28 2 (.bipush 6) := ⟨by decide +kernel, rfl⟩
theorem d_X12_sign_28 : kf_dj cX12_sign 28 31 43 .goto := ⟨15, by decide +kernel, rfl, by decide⟩
theorem d_X12_sign_31 : kf_dq cX12_sign 31 32 1 (.iload_n 2) := ⟨by decide +kernel, rfl⟩
theorem d_X12_sign_32 : kf_dq cX12_sign 32 34 2 (.bipush 41) := ⟨by decide +kernel, rfl⟩
theorem d_X12_sign_34 : kf_dj cX12_sign 34 37 42 (.if_icmp .ne) := ⟨8, by decide +kernel, rfl, by decide⟩
theorem d_X12_sign_37 : kf_dq cX12_sign 37 39 2 (.bipush 7) := ⟨by decide +kernel, rfl⟩
theorem d_X12_sign_39 : kf_dj cX12_sign 39 42 43 .goto := ⟨4, by decide +kernel, rfl, by decide⟩
theorem d_X12_sign_42 : kf_dq cX12_sign 42 43 1 (.iconst 3) := ⟨by decide +kernel, rfl⟩
theorem d_X12_sign_43 : kf_dq cX12_sign 43 45 2 (.istore 4) := ⟨by decide +kernel, rfl⟩
theorem d_X12_sign_45 : kf_dq cX12_sign 45 46 1 (.iload_n 2) := ⟨by decide +kernel, rfl⟩
theorem d_X12_sign_46 : kf_dq cX12_sign 46 48 2 (.bipush 43) := ⟨by decide +kernel, rfl⟩
theorem d_X12_sign_48 : kf_dj cX12_sign 48 51 55 (.if_icmp .ne) := ⟨7, by decide +kernel, rfl, by decide⟩
theorem d_X12_sign_51 : kf_dq cX12_sign 51 53 2 (.bipush 8) := ⟨by decide +kernel, rfl⟩
theorem d_X12_sign_53 : kf_dq cX12_sign 53 55 2 (.istore 4) := ⟨by decide +kernel, rfl⟩
theorem d_X12_sign_55 : kf_dq cX12_sign 55 56 1 (.iload_n 2) := ⟨by decide +kernel, rfl⟩
theorem d_X12_sign_56 : kf_dq cX12_sign 56 58 2 (.bipush 45) := ⟨by decide +kernel, rfl⟩
theorem d_X12_sign_58 : kf_dj cX12_sign 58 61 65 (.if_icmp .ne) := ⟨7, by decide +kernel, rfl, by decide⟩
theorem d_X12_sign_61 : kf_dq cX12_sign 61 63 2 (.bipush 9) := ⟨by decide +kernel, rfl⟩
theorem d_X12_sign_63 : kf_dq cX12_sign 63 65 2 (.istore 4) := ⟨by decide +kernel, rfl⟩
theorem d_X12_sign_65 : kf_dq cX12_sign 65 66 1 (.iload_n 2) := ⟨by decide +kernel, rfl⟩
theorem d_X12_sign_66 : kf_dq cX12_sign 66 68 2 (.bipush 42) := ⟨by decide +kernel, rfl⟩
theorem d_X12_sign_68 : kf_dj cX12_sign 68 71 75 (.if_icmp .ne) := ⟨7, by decide +kernel, rfl, by decide⟩
theorem d_X12_sign_71 : kf_dq cX12_sign 71 73 2 (.bipush 10) := ⟨by decide +kernel, rfl⟩
theorem d_X12_sign_73 : kf_dq cX12_sign 73 75 2 (.istore 4) := ⟨by decide +kernel, rfl⟩
theorem d_X12_sign_75 : kf_dq cX12_sign 75 76 1 (.iload_n 2) := ⟨by decide +kernel, rfl⟩
theorem d_X12_sign_76 : kf_dq cX12_sign 76 78 2 (.bipush 47) := ⟨by decide +kernel, rfl⟩
theorem d_X12_sign_78 : kf_dj cX12_sign 78 81 85 (.if_icmp .ne) := ⟨7, by decide +kernel, rfl, by decide⟩
theorem d_X12_sign_81 : kf_dq cX12_sign 81 83 2 (.bipush 15) := ⟨by decide +kernel, rfl⟩
theorem d_X12_sign_83 : kf_dq cX12_sign 83 85 2 (.istore 4) := ⟨by decide +kernel, rfl⟩
theorem d_X12_sign_85 : kf_dq cX12_sign 85 86 1 (.iload_n 2) := ⟨by decide +kernel, rfl⟩
theorem d_X12_sign_86 : kf_dq cX12_sign 86 88 2 (.bipush 60) := ⟨by decide +kernel, rfl⟩
theorem d_X12_sign_88 : kf_dj cX12_sign 88 91 95 (.if_icmp .ne) := ⟨7, by decide +kernel, rfl, by decide⟩
theorem d_X12_sign_91 : kf_dq cX12_sign 91 93 2 (.bipush 13) := ⟨by decide +kernel, rfl⟩
theorem d_X12_sign_93 : kf_dq cX12_sign 93 95 2 (.istore 4) := ⟨by decide +kernel, rfl⟩
theorem d_X12_sign_95 : kf_dq cX12_sign 95 96 1 (.aload_n 0) := ⟨by decide +kernel, rfl⟩
theorem d_X12_sign_96 : kf_dq cX12_sign 96 98 2 (.iload 4) := ⟨by decide +kernel, rfl⟩
theorem d_X12_sign_98 : kf_dq cX12_sign 98 99 1 (.iload_n 1) := ⟨by decide +kernel, rfl⟩
theorem d_X12_sign_99 : kf_dq cX12_sign 99 100 1 (.iconst 0) := ⟨by decide +kernel, rfl⟩
theorem d_X12_sign_100 : kf_dq cX12_sign 100 101 1 (.lconst 0) := ⟨by decide +kernel, rfl⟩
theorem d_X12_sign_101 : kf_dq cX12_sign 101 104 3 (.invokevirtual 188) := ⟨by decide +kernel, rfl⟩
theorem d_X12_sign_104 : kf_dq cX12_sign 104 105 1 (.iconst 1) := ⟨by decide +kernel, rfl⟩
theorem d_X12_sign_105 : kf_dq cX12_sign 105 106 1 (.ireturn) := ⟨by decide +kernel, rfl⟩
def f_X12_sign_95 (v0 : Nat) (v1 : Int32) (v4 : Int32) (σ : kf_St) : Option (Int32 × kf_St) :=
  (f_X12_token v0 v4 v1 0 (0 : Int64) σ).bind fun q_1 =>
  some (1, q_1)
set_option maxRecDepth 100000 in
set_option maxHeartbeats 4000000 in
theorem b_X12_sign_95 {X : kf_X} {G : kf_G} {q : (Int32 × kf_St)} (E : kf_ok X G cX12_sign RX12 5 (some .int) (2)) (hty : kf_wt G) (v0 : Nat) (v1 : Int32) (v4 : Int32) (k_v0 : kf_kd G v0 = 13) (σ : kf_St) (h : f_X12_sign_95 v0 v1 v4 σ = some q) : kf_WA X G 5 (kf_Q X G (some (.int q.1)) q.2) 95 [(0, .ref (kf_ad G v0)), (1, .int v1), (4, .int v4)] [] σ := by
  unfold f_X12_sign_95 at h
  refine wa_aload_n 0 rfl E d_X12_sign_95 ?_
  refine wa_iload 2 rfl E d_X12_sign_96 ?_
  refine wa_iload_n 1 rfl E d_X12_sign_98 ?_
  refine wa_iconst 0 ic_0 E d_X12_sign_99 ?_
  refine wa_lconst 0 lc_0 E d_X12_sign_100 ?_
  obtain ⟨q_1, hq_1, h⟩ := kf_bd h
  refine wa_callV (st2 := []) (c_X12_token hty v0 v4 v1 0 (0 : Int64) k_v0 σ hq_1) mv_X12_token ml_X12_188 k_v0 rfl (Nat.le_of_ble_eq_true rfl) rfl (Nat.le_of_ble_eq_true rfl) E d_X12_sign_101 rfl ?_
  refine wa_iconst 1 ic_1 E d_X12_sign_104 ?_
  cases h
  exact wa_iret E d_X12_sign_105
def f_X12_sign_85 (v0 : Nat) (v1 : Int32) (v2 : Int32) (v4 : Int32) (σ : kf_St) : Option (Int32 × kf_St) :=
  if v2 = 60 then
    f_X12_sign_95 v0 v1 13 σ
  else
    f_X12_sign_95 v0 v1 v4 σ
set_option maxRecDepth 100000 in
set_option maxHeartbeats 4000000 in
theorem b_X12_sign_85 {X : kf_X} {G : kf_G} {q : (Int32 × kf_St)} (E : kf_ok X G cX12_sign RX12 5 (some .int) (2)) (hty : kf_wt G) (v0 : Nat) (v1 : Int32) (v2 : Int32) (v4 : Int32) (k_v0 : kf_kd G v0 = 13) (σ : kf_St) (h : f_X12_sign_85 v0 v1 v2 v4 σ = some q) : kf_WA X G 5 (kf_Q X G (some (.int q.1)) q.2) 85 [(0, .ref (kf_ad G v0)), (1, .int v1), (2, .int v2), (4, .int v4)] [] σ := by
  unfold f_X12_sign_85 at h
  refine wa_iload_n 2 rfl E d_X12_sign_85 ?_
  refine wa_bipush 60 bp_60 E d_X12_sign_86 ?_
  refine wa_icmp_ne E d_X12_sign_88 (fun c_1 => ?_) (fun c_1 => ?_)
  · replace h := kf_iff c_1 h
    refine wa_sub [0, 1, 3] rfl ?_
    exact b_X12_sign_95 E hty v0 v1 v4 k_v0 σ h
  · replace h := kf_ift c_1 h
    refine wa_bipush 13 bp_13 E d_X12_sign_91 ?_
    refine wa_istore (lv' := [(4, .int 13), (0, .ref (kf_ad G v0)), (1, .int v1), (2, .int v2)]) (by decide) rfl E d_X12_sign_93 ?_
    refine wa_sub [1, 2, 0] rfl ?_
    exact b_X12_sign_95 E hty v0 v1 13 k_v0 σ h
def f_X12_sign_75 (v0 : Nat) (v1 : Int32) (v2 : Int32) (v4 : Int32) (σ : kf_St) : Option (Int32 × kf_St) :=
  if v2 = 47 then
    f_X12_sign_85 v0 v1 v2 15 σ
  else
    f_X12_sign_85 v0 v1 v2 v4 σ
set_option maxRecDepth 100000 in
set_option maxHeartbeats 4000000 in
theorem b_X12_sign_75 {X : kf_X} {G : kf_G} {q : (Int32 × kf_St)} (E : kf_ok X G cX12_sign RX12 5 (some .int) (2)) (hty : kf_wt G) (v0 : Nat) (v1 : Int32) (v2 : Int32) (v4 : Int32) (k_v0 : kf_kd G v0 = 13) (σ : kf_St) (h : f_X12_sign_75 v0 v1 v2 v4 σ = some q) : kf_WA X G 5 (kf_Q X G (some (.int q.1)) q.2) 75 [(0, .ref (kf_ad G v0)), (1, .int v1), (2, .int v2), (4, .int v4)] [] σ := by
  unfold f_X12_sign_75 at h
  refine wa_iload_n 2 rfl E d_X12_sign_75 ?_
  refine wa_bipush 47 bp_47 E d_X12_sign_76 ?_
  refine wa_icmp_ne E d_X12_sign_78 (fun c_1 => ?_) (fun c_1 => ?_)
  · replace h := kf_iff c_1 h
    exact b_X12_sign_85 E hty v0 v1 v2 v4 k_v0 σ h
  · replace h := kf_ift c_1 h
    refine wa_bipush 15 bp_15 E d_X12_sign_81 ?_
    refine wa_istore (lv' := [(4, .int 15), (0, .ref (kf_ad G v0)), (1, .int v1), (2, .int v2)]) (by decide) rfl E d_X12_sign_83 ?_
    refine wa_sub [1, 2, 3, 0] rfl ?_
    exact b_X12_sign_85 E hty v0 v1 v2 15 k_v0 σ h
def f_X12_sign_65 (v0 : Nat) (v1 : Int32) (v2 : Int32) (v4 : Int32) (σ : kf_St) : Option (Int32 × kf_St) :=
  if v2 = 42 then
    f_X12_sign_75 v0 v1 v2 10 σ
  else
    f_X12_sign_75 v0 v1 v2 v4 σ
set_option maxRecDepth 100000 in
set_option maxHeartbeats 4000000 in
theorem b_X12_sign_65 {X : kf_X} {G : kf_G} {q : (Int32 × kf_St)} (E : kf_ok X G cX12_sign RX12 5 (some .int) (2)) (hty : kf_wt G) (v0 : Nat) (v1 : Int32) (v2 : Int32) (v4 : Int32) (k_v0 : kf_kd G v0 = 13) (σ : kf_St) (h : f_X12_sign_65 v0 v1 v2 v4 σ = some q) : kf_WA X G 5 (kf_Q X G (some (.int q.1)) q.2) 65 [(0, .ref (kf_ad G v0)), (1, .int v1), (2, .int v2), (4, .int v4)] [] σ := by
  unfold f_X12_sign_65 at h
  refine wa_iload_n 2 rfl E d_X12_sign_65 ?_
  refine wa_bipush 42 bp_42 E d_X12_sign_66 ?_
  refine wa_icmp_ne E d_X12_sign_68 (fun c_1 => ?_) (fun c_1 => ?_)
  · replace h := kf_iff c_1 h
    exact b_X12_sign_75 E hty v0 v1 v2 v4 k_v0 σ h
  · replace h := kf_ift c_1 h
    refine wa_bipush 10 bp_10 E d_X12_sign_71 ?_
    refine wa_istore (lv' := [(4, .int 10), (0, .ref (kf_ad G v0)), (1, .int v1), (2, .int v2)]) (by decide) rfl E d_X12_sign_73 ?_
    refine wa_sub [1, 2, 3, 0] rfl ?_
    exact b_X12_sign_75 E hty v0 v1 v2 10 k_v0 σ h
def f_X12_sign_55 (v0 : Nat) (v1 : Int32) (v2 : Int32) (v4 : Int32) (σ : kf_St) : Option (Int32 × kf_St) :=
  if v2 = 45 then
    f_X12_sign_65 v0 v1 v2 9 σ
  else
    f_X12_sign_65 v0 v1 v2 v4 σ
set_option maxRecDepth 100000 in
set_option maxHeartbeats 4000000 in
theorem b_X12_sign_55 {X : kf_X} {G : kf_G} {q : (Int32 × kf_St)} (E : kf_ok X G cX12_sign RX12 5 (some .int) (2)) (hty : kf_wt G) (v0 : Nat) (v1 : Int32) (v2 : Int32) (v4 : Int32) (k_v0 : kf_kd G v0 = 13) (σ : kf_St) (h : f_X12_sign_55 v0 v1 v2 v4 σ = some q) : kf_WA X G 5 (kf_Q X G (some (.int q.1)) q.2) 55 [(0, .ref (kf_ad G v0)), (1, .int v1), (2, .int v2), (4, .int v4)] [] σ := by
  unfold f_X12_sign_55 at h
  refine wa_iload_n 2 rfl E d_X12_sign_55 ?_
  refine wa_bipush 45 bp_45 E d_X12_sign_56 ?_
  refine wa_icmp_ne E d_X12_sign_58 (fun c_1 => ?_) (fun c_1 => ?_)
  · replace h := kf_iff c_1 h
    exact b_X12_sign_65 E hty v0 v1 v2 v4 k_v0 σ h
  · replace h := kf_ift c_1 h
    refine wa_bipush 9 bp_9 E d_X12_sign_61 ?_
    refine wa_istore (lv' := [(4, .int 9), (0, .ref (kf_ad G v0)), (1, .int v1), (2, .int v2)]) (by decide) rfl E d_X12_sign_63 ?_
    refine wa_sub [1, 2, 3, 0] rfl ?_
    exact b_X12_sign_65 E hty v0 v1 v2 9 k_v0 σ h
def f_X12_sign_43 (v0 : Nat) (v1 : Int32) (v2 : Int32) (s0 : Int32) (σ : kf_St) : Option (Int32 × kf_St) :=
  if v2 = 43 then
    f_X12_sign_55 v0 v1 v2 8 σ
  else
    f_X12_sign_55 v0 v1 v2 s0 σ
set_option maxRecDepth 100000 in
set_option maxHeartbeats 4000000 in
theorem b_X12_sign_43 {X : kf_X} {G : kf_G} {q : (Int32 × kf_St)} (E : kf_ok X G cX12_sign RX12 5 (some .int) (2)) (hty : kf_wt G) (v0 : Nat) (v1 : Int32) (v2 : Int32) (s0 : Int32) (k_v0 : kf_kd G v0 = 13) (σ : kf_St) (h : f_X12_sign_43 v0 v1 v2 s0 σ = some q) : kf_WA X G 5 (kf_Q X G (some (.int q.1)) q.2) 43 [(0, .ref (kf_ad G v0)), (1, .int v1), (2, .int v2)] [.int s0] σ := by
  unfold f_X12_sign_43 at h
  refine wa_istore (lv' := [(4, .int s0), (0, .ref (kf_ad G v0)), (1, .int v1), (2, .int v2)]) (by decide) rfl E d_X12_sign_43 ?_
  refine wa_iload_n 3 rfl E d_X12_sign_45 ?_
  refine wa_bipush 43 bp_43 E d_X12_sign_46 ?_
  refine wa_icmp_ne E d_X12_sign_48 (fun c_1 => ?_) (fun c_1 => ?_)
  · replace h := kf_iff c_1 h
    refine wa_sub [1, 2, 3, 0] rfl ?_
    exact b_X12_sign_55 E hty v0 v1 v2 s0 k_v0 σ h
  · replace h := kf_ift c_1 h
    refine wa_bipush 8 bp_8 E d_X12_sign_51 ?_
    refine wa_istore (lv' := [(4, .int 8), (0, .ref (kf_ad G v0)), (1, .int v1), (2, .int v2)]) (by decide) rfl E d_X12_sign_53 ?_
    refine wa_sub [1, 2, 3, 0] rfl ?_
    exact b_X12_sign_55 E hty v0 v1 v2 8 k_v0 σ h
def f_X12_sign (v0 : Nat) (v1 : Int32) (v2 : Int32) (v3 : Int32) (σ : kf_St) : Option (Int32 × kf_St) :=
  if v2 = 59 then
    f_X12_sign_43 v0 v1 v2 4 σ
  else
    if v2 = 61 then
      f_X12_sign_43 v0 v1 v2 5 σ
    else
      if v2 = 40 then
        f_X12_sign_43 v0 v1 v2 6 σ
      else
        if v2 = 41 then
          f_X12_sign_43 v0 v1 v2 7 σ
        else
          f_X12_sign_43 v0 v1 v2 3 σ
set_option maxRecDepth 100000 in
set_option maxHeartbeats 4000000 in
theorem c_X12_sign {G : kf_G} (hty : kf_wt G) (v0 : Nat) (v1 : Int32) (v2 : Int32) (v3 : Int32) (k_v0 : kf_kd G v0 = 13) (σ : kf_St) {q : (Int32 × kf_St)} (h : f_X12_sign v0 v1 v2 v3 σ = some q) : kf_Ct (2) yX12_sign cX12_sign 5 (some .int) G [.ref (kf_ad G v0), .int v1, .int v2, .int v3] σ (some (.int q.1)) q.2 := by
  refine kf_Ct.of hty.1 (lv := [(0, .ref (kf_ad G v0)), (1, .int v1), (2, .int v2), (3, .int v3)]) (by decide +kernel) rfl (Nat.le_of_ble_eq_true rfl) (fun X E => ?_)
  unfold f_X12_sign at h
  refine wa_iload_n 2 rfl E d_X12_sign_0 ?_
  refine wa_bipush 59 bp_59 E d_X12_sign_1 ?_
  refine wa_icmp_ne E d_X12_sign_3 (fun c_1 => ?_) (fun c_1 => ?_)
  · replace h := kf_iff c_1 h
    refine wa_iload_n 2 rfl E d_X12_sign_10 ?_
    refine wa_bipush 61 bp_61 E d_X12_sign_11 ?_
    refine wa_icmp_ne E d_X12_sign_13 (fun c_2 => ?_) (fun c_2 => ?_)
    · replace h := kf_iff c_2 h
      refine wa_iload_n 2 rfl E d_X12_sign_20 ?_
      refine wa_bipush 40 bp_40 E d_X12_sign_21 ?_
      refine wa_icmp_ne E d_X12_sign_23 (fun c_3 => ?_) (fun c_3 => ?_)
      · replace h := kf_iff c_3 h
        refine wa_iload_n 2 rfl E d_X12_sign_31 ?_
        refine wa_bipush 41 bp_41 E d_X12_sign_32 ?_
        refine wa_icmp_ne E d_X12_sign_34 (fun c_4 => ?_) (fun c_4 => ?_)
        · replace h := kf_iff c_4 h
          refine wa_iconst 3 ic_3 E d_X12_sign_42 ?_
          refine wa_sub [0, 1, 2] rfl ?_
          exact b_X12_sign_43 E hty v0 v1 v2 3 k_v0 σ h
        · replace h := kf_ift c_4 h
          refine wa_bipush 7 bp_7 E d_X12_sign_37 ?_
          refine wa_goto E d_X12_sign_39 ?_
          refine wa_sub [0, 1, 2] rfl ?_
          exact b_X12_sign_43 E hty v0 v1 v2 7 k_v0 σ h
      · replace h := kf_ift c_3 h
        refine wa_bipush 6 bp_6 E d_X12_sign_26 ?_
        refine wa_goto E d_X12_sign_28 ?_
        refine wa_sub [0, 1, 2] rfl ?_
        exact b_X12_sign_43 E hty v0 v1 v2 6 k_v0 σ h
    · replace h := kf_ift c_2 h
      refine wa_iconst 5 ic_5 E d_X12_sign_16 ?_
      refine wa_goto E d_X12_sign_17 ?_
      refine wa_sub [0, 1, 2] rfl ?_
      exact b_X12_sign_43 E hty v0 v1 v2 5 k_v0 σ h
  · replace h := kf_ift c_1 h
    refine wa_iconst 4 ic_4 E d_X12_sign_6 ?_
    refine wa_goto E d_X12_sign_7 ?_
    refine wa_sub [0, 1, 2] rfl ?_
    exact b_X12_sign_43 E hty v0 v1 v2 4 k_v0 σ h
/-! X12_cut -/
theorem d_X12_cut_0 : kf_dq cX12_cut 0 1 1 (.aload_n 0) := ⟨by decide +kernel, rfl⟩
theorem d_X12_cut_1 : kf_dq cX12_cut 1 2 1 (.iconst 0) := ⟨by decide +kernel, rfl⟩
theorem d_X12_cut_2 : kf_dq cX12_cut 2 5 3 (.putfield 181) := ⟨by decide +kernel, rfl⟩
theorem d_X12_cut_5 : kf_dq cX12_cut 5 6 1 (.iconst 0) := ⟨by decide +kernel, rfl⟩
theorem d_X12_cut_6 : kf_dq cX12_cut 6 7 1 (.istore_n 1) := ⟨by decide +kernel, rfl⟩
theorem d_X12_cut_7 : kf_dq cX12_cut 7 8 1 (.aload_n 0) := ⟨by decide +kernel, rfl⟩
theorem d_X12_cut_8 : kf_dq cX12_cut 8 11 3 (.getfield 181) := ⟨by decide +kernel, rfl⟩
theorem d_X12_cut_11 : kf_dq cX12_cut 11 14 3 (.sipush 400) := ⟨by decide +kernel, rfl⟩
theorem d_X12_cut_14 : kf_dj cX12_cut 14 17 294 (.if_icmp .gt) := ⟨280, by decide +kernel, rfl, by decide⟩
theorem d_X12_cut_17 : kf_dq cX12_cut 17 18 1 (.aload_n 0) := ⟨by decide +kernel, rfl⟩
theorem d_X12_cut_18 : kf_dq cX12_cut 18 19 1 (.iload_n 1) := ⟨by decide +kernel, rfl⟩
theorem d_X12_cut_19 : kf_dq cX12_cut 19 22 3 (.invokevirtual 184) := ⟨by decide +kernel, rfl⟩
theorem d_X12_cut_22 : kf_dq cX12_cut 22 23 1 (.istore_n 2) := ⟨by decide +kernel, rfl⟩
theorem d_X12_cut_23 : kf_dq cX12_cut 23 24 1 (.iload_n 1) := ⟨by decide +kernel, rfl⟩
theorem d_X12_cut_24 : kf_dq cX12_cut 24 25 1 (.aload_n 0) := ⟨by decide +kernel, rfl⟩
theorem d_X12_cut_25 : kf_dq cX12_cut 25 28 3 (.getfield 172) := ⟨by decide +kernel, rfl⟩
theorem d_X12_cut_28 : kf_dj cX12_cut 28 31 43 (.if_icmp .lt) := ⟨15, by decide +kernel, rfl, by decide⟩
theorem d_X12_cut_31 : kf_dq cX12_cut 31 32 1 (.aload_n 0) := ⟨by decide +kernel, rfl⟩
theorem d_X12_cut_32 : kf_dq cX12_cut 32 33 1 (.iconst 0) := ⟨by decide +kernel, rfl⟩
theorem d_X12_cut_33 : kf_dq cX12_cut 33 34 1 (.aload_n 0) := ⟨by decide +kernel, rfl⟩
theorem d_X12_cut_34 : kf_dq cX12_cut 34 37 3 (.getfield 172) := ⟨by decide +kernel, rfl⟩
theorem d_X12_cut_37 : kf_dq cX12_cut 37 38 1 (.iconst 0) := ⟨by decide +kernel, rfl⟩
theorem d_X12_cut_38 : kf_dq cX12_cut 38 39 1 (.lconst 0) := ⟨by decide +kernel, rfl⟩
theorem d_X12_cut_39 : kf_dq cX12_cut 39 42 3 (.invokevirtual 188) := ⟨by decide +kernel, rfl⟩
theorem d_X12_cut_42 : kf_dq cX12_cut 42 43 1 (.return_) := ⟨by decide +kernel, rfl⟩
theorem d_X12_cut_43 : kf_dq cX12_cut 43 44 1 (.iload_n 2) := ⟨by decide +kernel, rfl⟩
theorem d_X12_cut_44 : kf_dq cX12_cut 44 46 2 (.bipush 9) := ⟨by decide +kernel, rfl⟩
theorem d_X12_cut_46 : kf_dj cX12_cut 46 49 67 (.if_icmp .eq) := ⟨21, by decide +kernel, rfl, by decide⟩
theorem d_X12_cut_49 : kf_dq cX12_cut 49 50 1 (.iload_n 2) := ⟨by decide +kernel, rfl⟩
theorem d_X12_cut_50 : kf_dq cX12_cut 50 52 2 (.bipush 10) := ⟨by decide +kernel, rfl⟩
theorem d_X12_cut_52 : kf_dj cX12_cut 52 55 67 (.if_icmp .eq) := ⟨15, by decide +kernel, rfl, by decide⟩
theorem d_X12_cut_55 : kf_dq cX12_cut 55 56 1 (.iload_n 2) := ⟨by decide +kernel, rfl⟩
theorem d_X12_cut_56 : kf_dq cX12_cut 56 58 2 (.bipush 13) := ⟨by decide +kernel, rfl⟩
theorem d_X12_cut_58 : kf_dj cX12_cut 58 61 67 (.if_icmp .eq) := ⟨9, by decide +kernel, rfl, by decide⟩
theorem d_X12_cut_61 : kf_dq cX12_cut 61 62 1 (.iload_n 2) := ⟨by decide +kernel, rfl⟩
theorem d_X12_cut_62 : kf_dq cX12_cut 62 64 2 (.bipush 32) := ⟨by decide +kernel, rfl⟩
theorem d_X12_cut_64 : kf_dj cX12_cut 64 67 73 (.if_icmp .ne) := ⟨9, by decide +kernel, rfl, by decide⟩
theorem d_X12_cut_67 : kf_dq cX12_cut 67 70 3 (.iinc 1 1) := ⟨by decide +kernel, rfl⟩
theorem d_X12_cut_70 : kf_dj cX12_cut 70 73 291 .goto := ⟨221, by decide +kernel, rfl, by decide⟩
theorem d_X12_cut_73 : kf_dq cX12_cut 73 74 1 (.iload_n 2) := ⟨by decide +kernel, rfl⟩
theorem d_X12_cut_74 : kf_dq cX12_cut 74 77 3 (.invokestatic 192) := ⟨by decide +kernel, rfl⟩
theorem d_X12_cut_77 : kf_dj cX12_cut 77 80 196 (.ifCond .eq) := ⟨119, by decide +kernel, rfl, by decide⟩
theorem d_X12_cut_80 : kf_dq cX12_cut 80 81 1 (.iconst 0) := ⟨by decide +kernel, rfl⟩
theorem d_X12_cut_81 : kf_dq cX12_cut 81 82 1 (.istore_n 3) := ⟨by decide +kernel, rfl⟩
theorem d_X12_cut_82 : kf_dq cX12_cut 82 83 1 (.lconst 0) := ⟨by decide +kernel, rfl⟩
theorem d_X12_cut_83 : kf_dq cX12_cut 83 85 2 (.lstore 4) := ⟨by decide +kernel, rfl⟩
theorem d_X12_cut_85 : kf_dq cX12_cut 85 86 1 (.aload_n 0) := ⟨by decide +kernel, rfl⟩
theorem d_X12_cut_86 : kf_dq cX12_cut 86 87 1 (.iload_n 1) := ⟨by decide +kernel, rfl⟩
theorem d_X12_cut_87 : kf_dq cX12_cut 87 88 1 (.iload_n 3) := ⟨by decide +kernel, rfl⟩
theorem d_X12_cut_88 : kf_dq cX12_cut 88 89 1 (.iadd) := ⟨by decide +kernel, rfl⟩
theorem d_X12_cut_89 : kf_dq cX12_cut 89 92 3 (.invokevirtual 184) := ⟨by decide +kernel, rfl⟩
theorem d_X12_cut_92 : kf_dq cX12_cut 92 95 3 (.invokestatic 192) := ⟨by decide +kernel, rfl⟩
theorem d_X12_cut_95 : kf_dj cX12_cut 95 98 124 (.ifCond .eq) := ⟨29, by decide +kernel, rfl, by decide⟩
theorem d_X12_cut_98 : kf_dq cX12_cut 98 99 1 (.iload_n 3) := ⟨by decide +kernel, rfl⟩
theorem d_X12_cut_99 : kf_dq cX12_cut 99 101 2 (.bipush 8) := ⟨by decide +kernel, rfl⟩
theorem d_X12_cut_101 : kf_dj cX12_cut 101 104 118 (.if_icmp .ge) := ⟨17, by decide +kernel, rfl, by decide⟩
theorem d_X12_cut_104 : kf_dq cX12_cut 104 106 2 (.lload 4) := ⟨by decide +kernel, rfl⟩
theorem d_X12_cut_106 : kf_dq cX12_cut 106 107 1 (.aload_n 0) := ⟨by decide +kernel, rfl⟩
theorem d_X12_cut_107 : kf_dq cX12_cut 107 108 1 (.iload_n 1) := ⟨by decide +kernel, rfl⟩
theorem d_X12_cut_108 : kf_dq cX12_cut 108 109 1 (.iload_n 3) := ⟨by decide +kernel, rfl⟩
theorem d_X12_cut_109 : kf_dq cX12_cut 109 110 1 (.iadd) := ⟨by decide +kernel, rfl⟩
theorem d_X12_cut_110 : kf_dq cX12_cut 110 113 3 (.invokevirtual 184) := ⟨by decide +kernel, rfl⟩
theorem d_X12_cut_113 : kf_dq cX12_cut 113 116 3 (.invokestatic 177) := ⟨by decide +kernel, rfl⟩
theorem d_X12_cut_116 : kf_dq cX12_cut 116 118 2 (.lstore 4) := ⟨by decide +kernel, rfl⟩
theorem d_X12_cut_118 : kf_dq cX12_cut 118 121 3 (.iinc 3 1) := ⟨by decide +kernel, rfl⟩
theorem d_X12_cut_121 : kf_dj cX12_cut 121 124 85 .goto := ⟨(-36), by decide +kernel, rfl, by decide⟩
theorem d_X12_cut_124 : kf_dq cX12_cut 124 125 1 (.iload_n 3) := ⟨by decide +kernel, rfl⟩
theorem d_X12_cut_125 : kf_dq cX12_cut 125 127 2 (.bipush 8) := ⟨by decide +kernel, rfl⟩
theorem d_X12_cut_127 : kf_dj cX12_cut 127 130 134 (.if_icmp .le) := ⟨7, by decide +kernel, rfl, by decide⟩
theorem d_X12_cut_130 : kf_dq cX12_cut 130 131 1 (.iconst 3) := ⟨by decide +kernel, rfl⟩
theorem d_X12_cut_131 : kf_dj cX12_cut 131 134 135 .goto := ⟨4, by decide +kernel, rfl, by decide⟩
theorem d_X12_cut_134 : kf_dq cX12_cut 134 135 1 (.iconst 1) := ⟨by decide +kernel, rfl⟩
theorem d_X12_cut_135 : kf_dq cX12_cut 135 137 2 (.istore 6) := ⟨by decide +kernel, rfl⟩
theorem d_X12_cut_137 : kf_dq cX12_cut 137 138 1 (.iload_n 3) := ⟨by decide +kernel, rfl⟩
theorem d_X12_cut_138 : kf_dq cX12_cut 138 140 2 (.bipush 8) := ⟨by decide +kernel, rfl⟩
theorem d_X12_cut_140 : kf_dj cX12_cut 140 143 179 (.if_icmp .gt) := ⟨39, by decide +kernel, rfl, by decide⟩
theorem d_X12_cut_143 : kf_dq cX12_cut 143 144 1 (.iconst 0) := ⟨by decide +kernel, rfl⟩
theorem d_X12_cut_144 : kf_dq cX12_cut 144 146 2 (.istore 7) := ⟨by decide +kernel, rfl⟩
theorem d_X12_cut_146 : kf_dq cX12_cut 146 148 2 (.iload 7) := ⟨by decide +kernel, rfl⟩
theorem d_X12_cut_148 : kf_dq cX12_cut 148 150 2 (.bipush 21) := ⟨by decide +kernel, rfl⟩
theorem d_X12_cut_150 : kf_dj cX12_cut 150 153 179 (.if_icmp .ge) := ⟨29, by decide +kernel, rfl, by decide⟩
theorem d_X12_cut_153 : kf_dq cX12_cut 153 154 1 (.aload_n 0) := ⟨by decide +kernel, rfl⟩
theorem d_X12_cut_154 : kf_dq cX12_cut 154 157 3 (.getfield 34) := ⟨by decide +kernel, rfl⟩
theorem d_X12_cut_157 : kf_dq cX12_cut 157 159 2 (.iload 7) := ⟨by decide +kernel, rfl⟩
theorem d_X12_cut_159 : kf_dq cX12_cut 159 160 1 (.laload) := ⟨by decide +kernel, rfl⟩
theorem d_X12_cut_160 : kf_dq cX12_cut 160 162 2 (.lload 4) := ⟨by decide +kernel, rfl⟩
theorem d_X12_cut_162 : kf_dq cX12_cut 162 163 1 (.lcmp) := ⟨by decide +kernel, rfl⟩
theorem d_X12_cut_163 : kf_dj cX12_cut 163 166 173 (.ifCond .ne) := ⟨10, by decide +kernel, rfl, by decide⟩
theorem d_X12_cut_166 : kf_dq cX12_cut 166 168 2 (.bipush 20) := ⟨by decide +kernel, rfl⟩
theorem d_X12_cut_168 : kf_dq cX12_cut 168 170 2 (.iload 7) := ⟨by decide +kernel, rfl⟩
theorem d_X12_cut_170 : kf_dq cX12_cut 170 171 1 (.iadd) := ⟨by decide +kernel, rfl⟩
theorem d_X12_cut_171 : kf_dq cX12_cut 171 173 2 (.istore 6) := ⟨by decide +kernel, rfl⟩
theorem d_X12_cut_173 : kf_dq cX12_cut 173 176 3 (.iinc 7 1) := ⟨by decide +kernel, rfl⟩
theorem d_X12_cut_176 : kf_dj cX12_cut 176 179 146 .goto := ⟨(-30), by decide +kernel, rfl, by decide⟩
theorem d_X12_cut_179 : kf_dq cX12_cut 179 180 1 (.aload_n 0) := ⟨by decide +kernel, rfl⟩
theorem d_X12_cut_180 : kf_dq cX12_cut 180 182 2 (.iload 6) := ⟨by decide +kernel, rfl⟩
theorem d_X12_cut_182 : kf_dq cX12_cut 182 183 1 (.iload_n 1) := ⟨by decide +kernel, rfl⟩
theorem d_X12_cut_183 : kf_dq cX12_cut 183 184 1 (.iconst 0) := ⟨by decide +kernel, rfl⟩
theorem d_X12_cut_184 : kf_dq cX12_cut 184 186 2 (.lload 4) := ⟨by decide +kernel, rfl⟩
theorem d_X12_cut_186 : kf_dq cX12_cut 186 189 3 (.invokevirtual 188) := ⟨by decide +kernel, rfl⟩
theorem d_X12_cut_189 : kf_dq cX12_cut 189 190 1 (.iload_n 1) := ⟨by decide +kernel, rfl⟩
theorem d_X12_cut_190 : kf_dq cX12_cut 190 191 1 (.iload_n 3) := ⟨by decide +kernel, rfl⟩
theorem d_X12_cut_191 : kf_dq cX12_cut 191 192 1 (.iadd) := ⟨by decide +kernel, rfl⟩
theorem d_X12_cut_192 : kf_dq cX12_cut 192 193 1 (.istore_n 1) := ⟨by decide +kernel, rfl⟩
theorem d_X12_cut_193 : kf_dj cX12_cut 193 196 291 .goto := ⟨98, by decide +kernel, rfl, by decide⟩
theorem d_X12_cut_196 : kf_dq cX12_cut 196 197 1 (.iload_n 2) := ⟨by decide +kernel, rfl⟩
theorem d_X12_cut_197 : kf_dq cX12_cut 197 200 3 (.invokestatic 196) := ⟨by decide +kernel, rfl⟩
theorem d_X12_cut_200 : kf_dj cX12_cut 200 203 275 (.ifCond .eq) := ⟨75, by decide +kernel, rfl, by decide⟩
theorem d_X12_cut_203 : kf_dq cX12_cut 203 204 1 (.iconst 0) := ⟨by decide +kernel, rfl⟩
theorem d_X12_cut_204 : kf_dq cX12_cut 204 205 1 (.istore_n 3) := ⟨by decide +kernel, rfl⟩
theorem d_X12_cut_205 : kf_dq cX12_cut 205 206 1 (.iconst 0) := ⟨by decide +kernel, rfl⟩
theorem d_X12_cut_206 : kf_dq cX12_cut 206 208 2 (.istore 4) := ⟨by decide +kernel, rfl⟩
theorem d_X12_cut_208 : kf_dq cX12_cut 208 209 1 (.aload_n 0) := ⟨by decide +kernel, rfl⟩
theorem d_X12_cut_209 : kf_dq cX12_cut 209 210 1 (.iload_n 1) := ⟨by decide +kernel, rfl⟩
theorem d_X12_cut_210 : kf_dq cX12_cut 210 211 1 (.iload_n 3) := ⟨by decide +kernel, rfl⟩
theorem d_X12_cut_211 : kf_dq cX12_cut 211 212 1 (.iadd) := ⟨by decide +kernel, rfl⟩
theorem d_X12_cut_212 : kf_dq cX12_cut 212 215 3 (.invokevirtual 184) := ⟨by decide +kernel, rfl⟩
theorem d_X12_cut_215 : kf_dq cX12_cut 215 218 3 (.invokestatic 196) := ⟨by decide +kernel, rfl⟩
theorem d_X12_cut_218 : kf_dj cX12_cut 218 221 250 (.ifCond .eq) := ⟨32, by decide +kernel, rfl, by decide⟩
theorem d_X12_cut_221 : kf_dq cX12_cut 221 222 1 (.iload_n 3) := ⟨by decide +kernel, rfl⟩
theorem d_X12_cut_222 : kf_dq cX12_cut 222 223 1 (.iconst 4) := ⟨by decide +kernel, rfl⟩
theorem d_X12_cut_223 : kf_dj cX12_cut 223 226 244 (.if_icmp .ge) := ⟨21, by decide +kernel, rfl, by decide⟩
theorem d_X12_cut_226 : kf_dq cX12_cut 226 228 2 (.bipush 10) := ⟨by decide +kernel, rfl⟩
theorem d_X12_cut_228 : kf_dq cX12_cut 228 230 2 (.iload 4) := ⟨by decide +kernel, rfl⟩
theorem d_X12_cut_230 : kf_dq cX12_cut 230 231 1 (.imul) := ⟨by decide +kernel, rfl⟩
theorem d_X12_cut_231 : kf_dq cX12_cut 231 232 1 (.aload_n 0) := ⟨by decide +kernel, rfl⟩
theorem d_X12_cut_232 : kf_dq cX12_cut 232 233 1 (.iload_n 1) := ⟨by decide +kernel, rfl⟩
theorem d_X12_cut_233 : kf_dq cX12_cut 233 234 1 (.iload_n 3) := ⟨by decide +kernel, rfl⟩
theorem d_X12_cut_234 : kf_dq cX12_cut 234 235 1 (.iadd) := ⟨by decide +kernel, rfl⟩
theorem d_X12_cut_235 : kf_dq cX12_cut 235 238 3 (.invokevirtual 184) := ⟨by decide +kernel, rfl⟩
theorem d_X12_cut_238 : kf_dq cX12_cut 238 239 1 (.iadd) := ⟨by decide +kernel, rfl⟩
theorem d_X12_cut_239 : kf_dq cX12_cut 239 241 2 (.bipush 48) := ⟨by decide +kernel, rfl⟩
theorem d_X12_cut_241 : kf_dq cX12_cut 241 242 1 (.isub) := ⟨by decide +kernel, rfl⟩
theorem d_X12_cut_242 : kf_dq cX12_cut 242 244 2 (.istore 4) := ⟨by decide +kernel, rfl⟩
theorem d_X12_cut_244 : kf_dq cX12_cut 244 247 3 (.iinc 3 1) := ⟨by decide +kernel, rfl⟩
theorem d_X12_cut_247 : kf_dj cX12_cut 247 250 208 .goto := ⟨(-39), by decide +kernel, rfl, by decide⟩
theorem d_X12_cut_250 : kf_dq cX12_cut 250 251 1 (.aload_n 0) := ⟨by decide +kernel, rfl⟩
theorem d_X12_cut_251 : kf_dq cX12_cut 251 252 1 (.iload_n 3) := ⟨by decide +kernel, rfl⟩
theorem d_X12_cut_252 : kf_dq cX12_cut 252 253 1 (.iconst 4) := ⟨by decide +kernel, rfl⟩
theorem d_X12_cut_253 : kf_dj cX12_cut 253 256 260 (.if_icmp .le) := ⟨7, by decide +kernel, rfl, by decide⟩
theorem d_X12_cut_256 : kf_dq cX12_cut 256 257 1 (.iconst 3) := ⟨by decide +kernel, rfl⟩
theorem d_X12_cut_257 : kf_dj cX12_cut 257 260 261 .goto := ⟨4, by decide +kernel, rfl, by decide⟩
theorem d_X12_cut_260 : kf_dq cX12_cut 260 261 1 (.iconst 2) := ⟨by decide +kernel, rfl⟩
theorem d_X12_cut_261 : kf_dq cX12_cut 261 262 1 (.iload_n 1) := ⟨by decide +kernel, rfl⟩
theorem d_X12_cut_262 : kf_dq cX12_cut 262 264 2 (.iload 4) := ⟨by decide +kernel, rfl⟩
theorem d_X12_cut_264 : kf_dq cX12_cut 264 265 1 (.lconst 0) := ⟨by decide +kernel, rfl⟩
theorem d_X12_cut_265 : kf_dq cX12_cut 265 268 3 (.invokevirtual 188) := ⟨by decide +kernel, rfl⟩
theorem d_X12_cut_268 : kf_dq cX12_cut 268 269 1 (.iload_n 1) := ⟨by decide +kernel, rfl⟩
theorem d_X12_cut_269 : kf_dq cX12_cut 269 270 1 (.iload_n 3) := ⟨by decide +kernel, rfl⟩
theorem d_X12_cut_270 : kf_dq cX12_cut 270 271 1 (.iadd) := ⟨by decide +kernel, rfl⟩
theorem d_X12_cut_271 : kf_dq cX12_cut 271 272 1 (.istore_n 1) := ⟨by decide +kernel, rfl⟩
theorem d_X12_cut_272 : kf_dj cX12_cut 272 275 291 .goto := ⟨19, by decide +kernel, rfl, by decide⟩
theorem d_X12_cut_275 : kf_dq cX12_cut 275 276 1 (.iload_n 1) := ⟨by decide +kernel, rfl⟩
theorem d_X12_cut_276 : kf_dq cX12_cut 276 277 1 (.aload_n 0) := ⟨by decide +kernel, rfl⟩
theorem d_X12_cut_277 : kf_dq cX12_cut 277 278 1 (.iload_n 1) := ⟨by decide +kernel, rfl⟩
theorem d_X12_cut_278 : kf_dq cX12_cut 278 279 1 (.iload_n 2) := ⟨by decide +kernel, rfl⟩
theorem d_X12_cut_279 : kf_dq cX12_cut 279 280 1 (.aload_n 0) := ⟨by decide +kernel, rfl⟩
theorem d_X12_cut_280 : kf_dq cX12_cut 280 281 1 (.iload_n 1) := ⟨by decide +kernel, rfl⟩
theorem d_X12_cut_281 : kf_dq cX12_cut 281 282 1 (.iconst 1) := ⟨by decide +kernel, rfl⟩
theorem d_X12_cut_282 : kf_dq cX12_cut 282 283 1 (.iadd) := ⟨by decide +kernel, rfl⟩
theorem d_X12_cut_283 : kf_dq cX12_cut 283 286 3 (.invokevirtual 184) := ⟨by decide +kernel, rfl⟩
theorem d_X12_cut_286 : kf_dq cX12_cut 286 289 3 (.invokevirtual 199) := ⟨by decide +kernel, rfl⟩
theorem d_X12_cut_289 : kf_dq cX12_cut 289 290 1 (.iadd) := ⟨by decide +kernel, rfl⟩
theorem d_X12_cut_290 : kf_dq cX12_cut 290 291 1 (.istore_n 1) := ⟨by decide +kernel, rfl⟩
theorem d_X12_cut_291 : kf_dj cX12_cut 291 294 7 .goto := ⟨(-284), by decide +kernel, rfl, by decide⟩
theorem d_X12_cut_294 : kf_dq cX12_cut 294 295 1 (.return_) := ⟨by decide +kernel, rfl⟩
def f_X12_cut_67 (rec7 : Nat → Int32 → kf_St → Option kf_St) (v0 : Nat) (v1 : Int32) (σ : kf_St) : Option kf_St :=
  kf_lt (v1 + 1) fun v1_1 =>
  rec7 v0 v1_1 σ
set_option maxRecDepth 100000 in
set_option maxHeartbeats 4000000 in
theorem b_X12_cut_67 {X : kf_X} {G : kf_G} {rec7 : Nat → Int32 → kf_St → Option kf_St} {q : kf_St} (E : kf_ok X G cX12_cut RX12 8 none (3)) (hty : kf_wt G) (hrec7 : ∀ (v0 : Nat) (v1 : Int32) (k_v0 : kf_kd G v0 = 13) (σ : kf_St), rec7 v0 v1 σ = some q → kf_WA X G 8 (kf_Q X G none q) 7 [(0, .ref (kf_ad G v0)), (1, .int v1)] [] σ) (v0 : Nat) (v1 : Int32) (k_v0 : kf_kd G v0 = 13) (σ : kf_St) (h : f_X12_cut_67 rec7 v0 v1 σ = some q) : kf_WA X G 8 (kf_Q X G none q) 67 [(0, .ref (kf_ad G v0)), (1, .int v1)] [] σ := by
  unfold f_X12_cut_67 at h
  obtain ⟨v1_1, ev1_1, h⟩ := kf_lte h
  refine wa_iinc (lv' := [(1, .int v1_1), (0, .ref (kf_ad G v0))]) v1_1 1 rfl (kf_inc ic_1 ev1_1) (by decide) rfl E d_X12_cut_67 ?_
  refine wa_goto E d_X12_cut_70 ?_
  refine wa_goto E d_X12_cut_291 ?_
  refine wa_sub [1, 0] rfl ?_
  exact hrec7 v0 v1_1 k_v0 σ h
def f_X12_cut_261 (rec7 : Nat → Int32 → kf_St → Option kf_St) (v0 : Nat) (v1 : Int32) (v3 : Int32) (v4 : Int32) (s0 : Nat) (s1 : Int32) (σ : kf_St) : Option kf_St :=
  (f_X12_token s0 s1 v1 v4 (0 : Int64) σ).bind fun q_1 =>
  kf_lt ((v1 + v3)) fun v1_2 =>
  rec7 v0 v1_2 q_1
set_option maxRecDepth 100000 in
set_option maxHeartbeats 4000000 in
theorem b_X12_cut_261 {X : kf_X} {G : kf_G} {rec7 : Nat → Int32 → kf_St → Option kf_St} {q : kf_St} (E : kf_ok X G cX12_cut RX12 8 none (3)) (hty : kf_wt G) (hrec7 : ∀ (v0 : Nat) (v1 : Int32) (k_v0 : kf_kd G v0 = 13) (σ : kf_St), rec7 v0 v1 σ = some q → kf_WA X G 8 (kf_Q X G none q) 7 [(0, .ref (kf_ad G v0)), (1, .int v1)] [] σ) (v0 : Nat) (v1 : Int32) (v3 : Int32) (v4 : Int32) (s0 : Nat) (s1 : Int32) (k_v0 : kf_kd G v0 = 13) (k_s0 : kf_kd G s0 = 13) (σ : kf_St) (h : f_X12_cut_261 rec7 v0 v1 v3 v4 s0 s1 σ = some q) : kf_WA X G 8 (kf_Q X G none q) 261 [(0, .ref (kf_ad G v0)), (1, .int v1), (3, .int v3), (4, .int v4)] [.int s1, .ref (kf_ad G s0)] σ := by
  unfold f_X12_cut_261 at h
  refine wa_iload_n 1 rfl E d_X12_cut_261 ?_
  refine wa_iload 3 rfl E d_X12_cut_262 ?_
  refine wa_lconst 0 lc_0 E d_X12_cut_264 ?_
  obtain ⟨q_1, hq_1, h⟩ := kf_bd h
  refine wa_callV (st2 := []) (c_X12_token hty s0 s1 v1 v4 (0 : Int64) k_s0 σ hq_1) mv_X12_token ml_X12_188 k_s0 rfl (Nat.le_of_ble_eq_true rfl) rfl (Nat.le_of_ble_eq_true rfl) E d_X12_cut_265 rfl ?_
  refine wa_iload_n 1 rfl E d_X12_cut_268 ?_
  refine wa_iload_n 2 rfl E d_X12_cut_269 ?_
  refine wa_iadd E d_X12_cut_270 ?_
  obtain ⟨v1_2, ev1_2, h⟩ := kf_lte h
  refine wa_topi ev1_2 ?_
  refine wa_istore_n (lv' := [(1, .int v1_2), (0, .ref (kf_ad G v0)), (3, .int v3), (4, .int v4)]) rfl (by decide) rfl E d_X12_cut_271 ?_
  refine wa_goto E d_X12_cut_272 ?_
  refine wa_goto E d_X12_cut_291 ?_
  refine wa_sub [1, 0] rfl ?_
  exact hrec7 v0 v1_2 k_v0 q_1 h
def f_X12_cut_244 (rec7 : Nat → Int32 → kf_St → Option kf_St) (rec208 : Nat → Int32 → Int32 → Int32 → kf_St → Option kf_St) (v0 : Nat) (v1 : Int32) (v3 : Int32) (v4 : Int32) (σ : kf_St) : Option kf_St :=
  kf_lt (v3 + 1) fun v3_1 =>
  rec208 v0 v1 v3_1 v4 σ
set_option maxRecDepth 100000 in
set_option maxHeartbeats 4000000 in
theorem b_X12_cut_244 {X : kf_X} {G : kf_G} {rec7 : Nat → Int32 → kf_St → Option kf_St} {rec208 : Nat → Int32 → Int32 → Int32 → kf_St → Option kf_St} {q : kf_St} (E : kf_ok X G cX12_cut RX12 8 none (3)) (hty : kf_wt G) (hrec7 : ∀ (v0 : Nat) (v1 : Int32) (k_v0 : kf_kd G v0 = 13) (σ : kf_St), rec7 v0 v1 σ = some q → kf_WA X G 8 (kf_Q X G none q) 7 [(0, .ref (kf_ad G v0)), (1, .int v1)] [] σ) (hrec208 : ∀ (v0 : Nat) (v1 : Int32) (v3 : Int32) (v4 : Int32) (k_v0 : kf_kd G v0 = 13) (σ : kf_St), rec208 v0 v1 v3 v4 σ = some q → kf_WA X G 8 (kf_Q X G none q) 208 [(0, .ref (kf_ad G v0)), (1, .int v1), (3, .int v3), (4, .int v4)] [] σ) (v0 : Nat) (v1 : Int32) (v3 : Int32) (v4 : Int32) (k_v0 : kf_kd G v0 = 13) (σ : kf_St) (h : f_X12_cut_244 rec7 rec208 v0 v1 v3 v4 σ = some q) : kf_WA X G 8 (kf_Q X G none q) 244 [(0, .ref (kf_ad G v0)), (1, .int v1), (3, .int v3), (4, .int v4)] [] σ := by
  unfold f_X12_cut_244 at h
  obtain ⟨v3_1, ev3_1, h⟩ := kf_lte h
  refine wa_iinc (lv' := [(3, .int v3_1), (0, .ref (kf_ad G v0)), (1, .int v1), (4, .int v4)]) v3_1 2 rfl (kf_inc ic_1 ev3_1) (by decide) rfl E d_X12_cut_244 ?_
  refine wa_goto E d_X12_cut_247 ?_
  refine wa_sub [1, 2, 0, 3] rfl ?_
  exact hrec208 v0 v1 v3_1 v4 k_v0 σ h
def f_X12_cut_208_s (rec7 : Nat → Int32 → kf_St → Option kf_St) (rec208 : Nat → Int32 → Int32 → Int32 → kf_St → Option kf_St) (v0 : Nat) (v1 : Int32) (v3 : Int32) (v4 : Int32) (σ : kf_St) : Option kf_St :=
  (f_X12_byteAt v0 (v1 + v3) σ).bind fun q_1 =>
  (f_X12_isDigit q_1.1 q_1.2).bind fun q_2 =>
  if q_2.1 = 0 then
    if v3 ≤ 4 then
      f_X12_cut_261 rec7 v0 v1 v3 v4 v0 2 q_2.2
    else
      f_X12_cut_261 rec7 v0 v1 v3 v4 v0 3 q_2.2
  else
    if 4 ≤ v3 then
      f_X12_cut_244 rec7 rec208 v0 v1 v3 v4 q_2.2
    else
      (f_X12_byteAt v0 (v1 + v3) q_2.2).bind fun q_6 =>
      kf_lt ((((10 * v4) + q_6.1) - 48)) fun v4_7 =>
      f_X12_cut_244 rec7 rec208 v0 v1 v3 v4_7 q_6.2
def f_X12_cut_208 (rec7 : Nat → Int32 → kf_St → Option kf_St) : Nat → Nat → Int32 → Int32 → Int32 → kf_St → Option kf_St
  | 0, _, _, _, _, _ => none
  | n + 1, v0, v1, v3, v4, σ => f_X12_cut_208_s rec7 (f_X12_cut_208 rec7 n) v0 v1 v3 v4 σ
set_option maxRecDepth 100000 in
set_option maxHeartbeats 4000000 in
theorem b_X12_cut_208_s {X : kf_X} {G : kf_G} {rec7 : Nat → Int32 → kf_St → Option kf_St} (rec208 : Nat → Int32 → Int32 → Int32 → kf_St → Option kf_St) {q : kf_St} (E : kf_ok X G cX12_cut RX12 8 none (3)) (hty : kf_wt G) (hrec7 : ∀ (v0 : Nat) (v1 : Int32) (k_v0 : kf_kd G v0 = 13) (σ : kf_St), rec7 v0 v1 σ = some q → kf_WA X G 8 (kf_Q X G none q) 7 [(0, .ref (kf_ad G v0)), (1, .int v1)] [] σ) (hrec208 : ∀ (v0 : Nat) (v1 : Int32) (v3 : Int32) (v4 : Int32) (k_v0 : kf_kd G v0 = 13) (σ : kf_St), rec208 v0 v1 v3 v4 σ = some q → kf_WA X G 8 (kf_Q X G none q) 208 [(0, .ref (kf_ad G v0)), (1, .int v1), (3, .int v3), (4, .int v4)] [] σ) (v0 : Nat) (v1 : Int32) (v3 : Int32) (v4 : Int32) (k_v0 : kf_kd G v0 = 13) (σ : kf_St) (h : f_X12_cut_208_s rec7 rec208 v0 v1 v3 v4 σ = some q) : kf_WA X G 8 (kf_Q X G none q) 208 [(0, .ref (kf_ad G v0)), (1, .int v1), (3, .int v3), (4, .int v4)] [] σ := by
  unfold f_X12_cut_208_s at h
  refine wa_aload_n 0 rfl E d_X12_cut_208 ?_
  refine wa_iload_n 1 rfl E d_X12_cut_209 ?_
  refine wa_iload_n 2 rfl E d_X12_cut_210 ?_
  refine wa_iadd E d_X12_cut_211 ?_
  obtain ⟨q_1, hq_1, h⟩ := kf_bd h
  refine wa_callV (st2 := [.int q_1.1]) (c_X12_byteAt hty v0 (v1 + v3) k_v0 σ hq_1) mv_X12_byteAt ml_X12_184 k_v0 rfl (Nat.le_of_ble_eq_true rfl) rfl (Nat.le_of_ble_eq_true rfl) E d_X12_cut_212 rfl ?_
  obtain ⟨q_2, hq_2, h⟩ := kf_bd h
  refine wa_callS (st2 := [.int q_2.1]) (c_X12_isDigit hty q_1.1 q_1.2 hq_2) mt_X12_isDigit ml_X12_196 rfl (Nat.le_of_ble_eq_true rfl) rfl (Nat.le_of_ble_eq_true rfl) E d_X12_cut_215 rfl ?_
  refine wa_if_eq E d_X12_cut_218 (fun c_3 => ?_) (fun c_3 => ?_)
  · replace h := kf_ift c_3 h
    refine wa_aload_n 0 rfl E d_X12_cut_250 ?_
    refine wa_iload_n 2 rfl E d_X12_cut_251 ?_
    refine wa_iconst 4 ic_4 E d_X12_cut_252 ?_
    refine wa_icmp_le E d_X12_cut_253 (fun c_4 => ?_) (fun c_4 => ?_)
    · replace h := kf_ift c_4 h
      refine wa_iconst 2 ic_2 E d_X12_cut_260 ?_
      exact b_X12_cut_261 E hty hrec7 v0 v1 v3 v4 v0 2 k_v0 k_v0 q_2.2 h
    · replace h := kf_iff c_4 h
      refine wa_iconst 3 ic_3 E d_X12_cut_256 ?_
      refine wa_goto E d_X12_cut_257 ?_
      exact b_X12_cut_261 E hty hrec7 v0 v1 v3 v4 v0 3 k_v0 k_v0 q_2.2 h
  · replace h := kf_iff c_3 h
    refine wa_iload_n 2 rfl E d_X12_cut_221 ?_
    refine wa_iconst 4 ic_4 E d_X12_cut_222 ?_
    refine wa_icmp_ge E d_X12_cut_223 (fun c_5 => ?_) (fun c_5 => ?_)
    · replace h := kf_ift c_5 h
      exact b_X12_cut_244 E hty hrec7 hrec208 v0 v1 v3 v4 k_v0 q_2.2 h
    · replace h := kf_iff c_5 h
      refine wa_bipush 10 bp_10 E d_X12_cut_226 ?_
      refine wa_iload 3 rfl E d_X12_cut_228 ?_
      refine wa_imul E d_X12_cut_230 ?_
      refine wa_aload_n 0 rfl E d_X12_cut_231 ?_
      refine wa_iload_n 1 rfl E d_X12_cut_232 ?_
      refine wa_iload_n 2 rfl E d_X12_cut_233 ?_
      refine wa_iadd E d_X12_cut_234 ?_
      obtain ⟨q_6, hq_6, h⟩ := kf_bd h
      refine wa_callV (st2 := [.int q_6.1, .int (10 * v4)]) (c_X12_byteAt hty v0 (v1 + v3) k_v0 q_2.2 hq_6) mv_X12_byteAt ml_X12_184 k_v0 rfl (Nat.le_of_ble_eq_true rfl) rfl (Nat.le_of_ble_eq_true rfl) E d_X12_cut_235 rfl ?_
      refine wa_iadd E d_X12_cut_238 ?_
      refine wa_bipush 48 bp_48 E d_X12_cut_239 ?_
      refine wa_isub E d_X12_cut_241 ?_
      obtain ⟨v4_7, ev4_7, h⟩ := kf_lte h
      refine wa_topi ev4_7 ?_
      refine wa_istore (lv' := [(4, .int v4_7), (0, .ref (kf_ad G v0)), (1, .int v1), (3, .int v3)]) (by decide) rfl E d_X12_cut_242 ?_
      refine wa_sub [1, 2, 3, 0] rfl ?_
      exact b_X12_cut_244 E hty hrec7 hrec208 v0 v1 v3 v4_7 k_v0 q_6.2 h
theorem b_X12_cut_208 {X : kf_X} {G : kf_G} {rec7 : Nat → Int32 → kf_St → Option kf_St} {q : kf_St} (E : kf_ok X G cX12_cut RX12 8 none (3)) (hty : kf_wt G) (hrec7 : ∀ (v0 : Nat) (v1 : Int32) (k_v0 : kf_kd G v0 = 13) (σ : kf_St), rec7 v0 v1 σ = some q → kf_WA X G 8 (kf_Q X G none q) 7 [(0, .ref (kf_ad G v0)), (1, .int v1)] [] σ) : ∀ (N : Nat) (v0 : Nat) (v1 : Int32) (v3 : Int32) (v4 : Int32) (k_v0 : kf_kd G v0 = 13) (σ : kf_St) (_ : f_X12_cut_208 rec7 N v0 v1 v3 v4 σ = some q), kf_WA X G 8 (kf_Q X G none q) 208 [(0, .ref (kf_ad G v0)), (1, .int v1), (3, .int v3), (4, .int v4)] [] σ
  | 0, _, _, _, _, _, _, h => by cases h
  | N + 1, v0, v1, v3, v4, k_v0, σ, h => b_X12_cut_208_s _ E hty hrec7 (b_X12_cut_208 E hty hrec7 N) v0 v1 v3 v4 k_v0 σ h
def f_X12_cut_179 (rec7 : Nat → Int32 → kf_St → Option kf_St) (v0 : Nat) (v1 : Int32) (v3 : Int32) (v4 : Int64) (v6 : Int32) (σ : kf_St) : Option kf_St :=
  (f_X12_token v0 v6 v1 0 v4 σ).bind fun q_1 =>
  kf_lt ((v1 + v3)) fun v1_2 =>
  rec7 v0 v1_2 q_1
set_option maxRecDepth 100000 in
set_option maxHeartbeats 4000000 in
theorem b_X12_cut_179 {X : kf_X} {G : kf_G} {rec7 : Nat → Int32 → kf_St → Option kf_St} {q : kf_St} (E : kf_ok X G cX12_cut RX12 8 none (3)) (hty : kf_wt G) (hrec7 : ∀ (v0 : Nat) (v1 : Int32) (k_v0 : kf_kd G v0 = 13) (σ : kf_St), rec7 v0 v1 σ = some q → kf_WA X G 8 (kf_Q X G none q) 7 [(0, .ref (kf_ad G v0)), (1, .int v1)] [] σ) (v0 : Nat) (v1 : Int32) (v3 : Int32) (v4 : Int64) (v6 : Int32) (k_v0 : kf_kd G v0 = 13) (σ : kf_St) (h : f_X12_cut_179 rec7 v0 v1 v3 v4 v6 σ = some q) : kf_WA X G 8 (kf_Q X G none q) 179 [(0, .ref (kf_ad G v0)), (1, .int v1), (3, .int v3), (4, .long v4), (6, .int v6)] [] σ := by
  unfold f_X12_cut_179 at h
  refine wa_aload_n 0 rfl E d_X12_cut_179 ?_
  refine wa_iload 4 rfl E d_X12_cut_180 ?_
  refine wa_iload_n 1 rfl E d_X12_cut_182 ?_
  refine wa_iconst 0 ic_0 E d_X12_cut_183 ?_
  refine wa_lload 3 rfl E d_X12_cut_184 ?_
  obtain ⟨q_1, hq_1, h⟩ := kf_bd h
  refine wa_callV (st2 := []) (c_X12_token hty v0 v6 v1 0 v4 k_v0 σ hq_1) mv_X12_token ml_X12_188 k_v0 rfl (Nat.le_of_ble_eq_true rfl) rfl (Nat.le_of_ble_eq_true rfl) E d_X12_cut_186 rfl ?_
  refine wa_iload_n 1 rfl E d_X12_cut_189 ?_
  refine wa_iload_n 2 rfl E d_X12_cut_190 ?_
  refine wa_iadd E d_X12_cut_191 ?_
  obtain ⟨v1_2, ev1_2, h⟩ := kf_lte h
  refine wa_topi ev1_2 ?_
  refine wa_istore_n (lv' := [(1, .int v1_2), (0, .ref (kf_ad G v0)), (3, .int v3), (4, .long v4), (6, .int v6)]) rfl (by decide) rfl E d_X12_cut_192 ?_
  refine wa_goto E d_X12_cut_193 ?_
  refine wa_goto E d_X12_cut_291 ?_
  refine wa_sub [1, 0] rfl ?_
  exact hrec7 v0 v1_2 k_v0 q_1 h
def f_X12_cut_173 (rec7 : Nat → Int32 → kf_St → Option kf_St) (rec146 : Nat → Int32 → Int32 → Int64 → Int32 → Int32 → kf_St → Option kf_St) (v0 : Nat) (v1 : Int32) (v3 : Int32) (v4 : Int64) (v6 : Int32) (v7 : Int32) (σ : kf_St) : Option kf_St :=
  kf_lt (v7 + 1) fun v7_1 =>
  rec146 v0 v1 v3 v4 v6 v7_1 σ
set_option maxRecDepth 100000 in
set_option maxHeartbeats 4000000 in
theorem b_X12_cut_173 {X : kf_X} {G : kf_G} {rec7 : Nat → Int32 → kf_St → Option kf_St} {rec146 : Nat → Int32 → Int32 → Int64 → Int32 → Int32 → kf_St → Option kf_St} {q : kf_St} (E : kf_ok X G cX12_cut RX12 8 none (3)) (hty : kf_wt G) (hrec7 : ∀ (v0 : Nat) (v1 : Int32) (k_v0 : kf_kd G v0 = 13) (σ : kf_St), rec7 v0 v1 σ = some q → kf_WA X G 8 (kf_Q X G none q) 7 [(0, .ref (kf_ad G v0)), (1, .int v1)] [] σ) (hrec146 : ∀ (v0 : Nat) (v1 : Int32) (v3 : Int32) (v4 : Int64) (v6 : Int32) (v7 : Int32) (k_v0 : kf_kd G v0 = 13) (σ : kf_St), rec146 v0 v1 v3 v4 v6 v7 σ = some q → kf_WA X G 8 (kf_Q X G none q) 146 [(0, .ref (kf_ad G v0)), (1, .int v1), (3, .int v3), (4, .long v4), (6, .int v6), (7, .int v7)] [] σ) (v0 : Nat) (v1 : Int32) (v3 : Int32) (v4 : Int64) (v6 : Int32) (v7 : Int32) (k_v0 : kf_kd G v0 = 13) (σ : kf_St) (h : f_X12_cut_173 rec7 rec146 v0 v1 v3 v4 v6 v7 σ = some q) : kf_WA X G 8 (kf_Q X G none q) 173 [(0, .ref (kf_ad G v0)), (1, .int v1), (3, .int v3), (4, .long v4), (6, .int v6), (7, .int v7)] [] σ := by
  unfold f_X12_cut_173 at h
  obtain ⟨v7_1, ev7_1, h⟩ := kf_lte h
  refine wa_iinc (lv' := [(7, .int v7_1), (0, .ref (kf_ad G v0)), (1, .int v1), (3, .int v3), (4, .long v4), (6, .int v6)]) v7_1 5 rfl (kf_inc ic_1 ev7_1) (by decide) rfl E d_X12_cut_173 ?_
  refine wa_goto E d_X12_cut_176 ?_
  refine wa_sub [1, 2, 3, 4, 5, 0] rfl ?_
  exact hrec146 v0 v1 v3 v4 v6 v7_1 k_v0 σ h
def f_X12_cut_146_s (rec7 : Nat → Int32 → kf_St → Option kf_St) (rec146 : Nat → Int32 → Int32 → Int64 → Int32 → Int32 → kf_St → Option kf_St) (v0 : Nat) (v1 : Int32) (v3 : Int32) (v4 : Int64) (v6 : Int32) (v7 : Int32) (σ : kf_St) : Option kf_St :=
  if 21 ≤ v7 then
    f_X12_cut_179 rec7 v0 v1 v3 v4 v6 σ
  else
    if kf_ix v7 (kf_ln (kf_rf v0 9)) = true then
    if (lg_cmp (σ.2 (kf_rf v0 9) (Int32.toNatClampNeg v7)) v4) = 0 then
      kf_lt ((20 + v7)) fun v6_4 =>
      f_X12_cut_173 rec7 rec146 v0 v1 v3 v4 v6_4 v7 σ
    else
      f_X12_cut_173 rec7 rec146 v0 v1 v3 v4 v6 v7 σ
    else none
def f_X12_cut_146 (rec7 : Nat → Int32 → kf_St → Option kf_St) : Nat → Nat → Int32 → Int32 → Int64 → Int32 → Int32 → kf_St → Option kf_St
  | 0, _, _, _, _, _, _, _ => none
  | n + 1, v0, v1, v3, v4, v6, v7, σ => f_X12_cut_146_s rec7 (f_X12_cut_146 rec7 n) v0 v1 v3 v4 v6 v7 σ
set_option maxRecDepth 100000 in
set_option maxHeartbeats 4000000 in
theorem b_X12_cut_146_s {X : kf_X} {G : kf_G} {rec7 : Nat → Int32 → kf_St → Option kf_St} (rec146 : Nat → Int32 → Int32 → Int64 → Int32 → Int32 → kf_St → Option kf_St) {q : kf_St} (E : kf_ok X G cX12_cut RX12 8 none (3)) (hty : kf_wt G) (hrec7 : ∀ (v0 : Nat) (v1 : Int32) (k_v0 : kf_kd G v0 = 13) (σ : kf_St), rec7 v0 v1 σ = some q → kf_WA X G 8 (kf_Q X G none q) 7 [(0, .ref (kf_ad G v0)), (1, .int v1)] [] σ) (hrec146 : ∀ (v0 : Nat) (v1 : Int32) (v3 : Int32) (v4 : Int64) (v6 : Int32) (v7 : Int32) (k_v0 : kf_kd G v0 = 13) (σ : kf_St), rec146 v0 v1 v3 v4 v6 v7 σ = some q → kf_WA X G 8 (kf_Q X G none q) 146 [(0, .ref (kf_ad G v0)), (1, .int v1), (3, .int v3), (4, .long v4), (6, .int v6), (7, .int v7)] [] σ) (v0 : Nat) (v1 : Int32) (v3 : Int32) (v4 : Int64) (v6 : Int32) (v7 : Int32) (k_v0 : kf_kd G v0 = 13) (σ : kf_St) (h : f_X12_cut_146_s rec7 rec146 v0 v1 v3 v4 v6 v7 σ = some q) : kf_WA X G 8 (kf_Q X G none q) 146 [(0, .ref (kf_ad G v0)), (1, .int v1), (3, .int v3), (4, .long v4), (6, .int v6), (7, .int v7)] [] σ := by
  unfold f_X12_cut_146_s at h
  refine wa_iload 5 rfl E d_X12_cut_146 ?_
  refine wa_bipush 21 bp_21 E d_X12_cut_148 ?_
  refine wa_icmp_ge E d_X12_cut_150 (fun c_1 => ?_) (fun c_1 => ?_)
  · replace h := kf_ift c_1 h
    refine wa_sub [0, 1, 2, 3, 4] rfl ?_
    exact b_X12_cut_179 E hty hrec7 v0 v1 v3 v4 v6 k_v0 σ h
  · replace h := kf_iff c_1 h
    refine wa_aload_n 0 rfl E d_X12_cut_153 ?_
    refine wa_getR fl_X12_34 k_v0 rfl E d_X12_cut_154 ?_
    refine wa_iload 5 rfl E d_X12_cut_157 ?_
    obtain ⟨g_2, h⟩ := kf_gd h
    refine wa_lald (kf_wtf hty 9 50 k_v0 (by decide) rfl) g_2 E d_X12_cut_159 ?_
    refine wa_lload 3 rfl E d_X12_cut_160 ?_
    refine wa_lcmp E d_X12_cut_162 ?_
    refine wa_if_ne E d_X12_cut_163 (fun c_3 => ?_) (fun c_3 => ?_)
    · replace h := kf_iff c_3 h
      exact b_X12_cut_173 E hty hrec7 hrec146 v0 v1 v3 v4 v6 v7 k_v0 σ h
    · replace h := kf_ift c_3 h
      refine wa_bipush 20 bp_20 E d_X12_cut_166 ?_
      refine wa_iload 5 rfl E d_X12_cut_168 ?_
      refine wa_iadd E d_X12_cut_170 ?_
      obtain ⟨v6_4, ev6_4, h⟩ := kf_lte h
      refine wa_topi ev6_4 ?_
      refine wa_istore (lv' := [(6, .int v6_4), (0, .ref (kf_ad G v0)), (1, .int v1), (3, .int v3), (4, .long v4), (7, .int v7)]) (by decide) rfl E d_X12_cut_171 ?_
      refine wa_sub [1, 2, 3, 4, 0, 5] rfl ?_
      exact b_X12_cut_173 E hty hrec7 hrec146 v0 v1 v3 v4 v6_4 v7 k_v0 σ h
theorem b_X12_cut_146 {X : kf_X} {G : kf_G} {rec7 : Nat → Int32 → kf_St → Option kf_St} {q : kf_St} (E : kf_ok X G cX12_cut RX12 8 none (3)) (hty : kf_wt G) (hrec7 : ∀ (v0 : Nat) (v1 : Int32) (k_v0 : kf_kd G v0 = 13) (σ : kf_St), rec7 v0 v1 σ = some q → kf_WA X G 8 (kf_Q X G none q) 7 [(0, .ref (kf_ad G v0)), (1, .int v1)] [] σ) : ∀ (N : Nat) (v0 : Nat) (v1 : Int32) (v3 : Int32) (v4 : Int64) (v6 : Int32) (v7 : Int32) (k_v0 : kf_kd G v0 = 13) (σ : kf_St) (_ : f_X12_cut_146 rec7 N v0 v1 v3 v4 v6 v7 σ = some q), kf_WA X G 8 (kf_Q X G none q) 146 [(0, .ref (kf_ad G v0)), (1, .int v1), (3, .int v3), (4, .long v4), (6, .int v6), (7, .int v7)] [] σ
  | 0, _, _, _, _, _, _, _, _, h => by cases h
  | N + 1, v0, v1, v3, v4, v6, v7, k_v0, σ, h => b_X12_cut_146_s _ E hty hrec7 (b_X12_cut_146 E hty hrec7 N) v0 v1 v3 v4 v6 v7 k_v0 σ h
def f_X12_cut_135 (rec7 : Nat → Int32 → kf_St → Option kf_St) (v0 : Nat) (v1 : Int32) (v3 : Int32) (v4 : Int64) (s0 : Int32) (σ : kf_St) : Option kf_St :=
  if 8 < v3 then
    f_X12_cut_179 rec7 v0 v1 v3 v4 s0 σ
  else
    f_X12_cut_146 rec7 kf_F v0 v1 v3 v4 s0 0 σ
set_option maxRecDepth 100000 in
set_option maxHeartbeats 4000000 in
theorem b_X12_cut_135 {X : kf_X} {G : kf_G} {rec7 : Nat → Int32 → kf_St → Option kf_St} {q : kf_St} (E : kf_ok X G cX12_cut RX12 8 none (3)) (hty : kf_wt G) (hrec7 : ∀ (v0 : Nat) (v1 : Int32) (k_v0 : kf_kd G v0 = 13) (σ : kf_St), rec7 v0 v1 σ = some q → kf_WA X G 8 (kf_Q X G none q) 7 [(0, .ref (kf_ad G v0)), (1, .int v1)] [] σ) (v0 : Nat) (v1 : Int32) (v3 : Int32) (v4 : Int64) (s0 : Int32) (k_v0 : kf_kd G v0 = 13) (σ : kf_St) (h : f_X12_cut_135 rec7 v0 v1 v3 v4 s0 σ = some q) : kf_WA X G 8 (kf_Q X G none q) 135 [(0, .ref (kf_ad G v0)), (1, .int v1), (3, .int v3), (4, .long v4)] [.int s0] σ := by
  unfold f_X12_cut_135 at h
  refine wa_istore (lv' := [(6, .int s0), (0, .ref (kf_ad G v0)), (1, .int v1), (3, .int v3), (4, .long v4)]) (by decide) rfl E d_X12_cut_135 ?_
  refine wa_iload_n 3 rfl E d_X12_cut_137 ?_
  refine wa_bipush 8 bp_8 E d_X12_cut_138 ?_
  refine wa_icmp_gt E d_X12_cut_140 (fun c_1 => ?_) (fun c_1 => ?_)
  · replace h := kf_ift c_1 h
    refine wa_sub [1, 2, 3, 4, 0] rfl ?_
    exact b_X12_cut_179 E hty hrec7 v0 v1 v3 v4 s0 k_v0 σ h
  · replace h := kf_iff c_1 h
    refine wa_iconst 0 ic_0 E d_X12_cut_143 ?_
    refine wa_istore (lv' := [(7, .int 0), (6, .int s0), (0, .ref (kf_ad G v0)), (1, .int v1), (3, .int v3), (4, .long v4)]) (by decide) rfl E d_X12_cut_144 ?_
    refine wa_sub [2, 3, 4, 5, 1, 0] rfl ?_
    exact b_X12_cut_146 E hty hrec7 kf_F v0 v1 v3 v4 s0 0 k_v0 σ h
def f_X12_cut_118 (rec7 : Nat → Int32 → kf_St → Option kf_St) (rec85 : Nat → Int32 → Int32 → Int64 → kf_St → Option kf_St) (v0 : Nat) (v1 : Int32) (v3 : Int32) (v4 : Int64) (σ : kf_St) : Option kf_St :=
  kf_lt (v3 + 1) fun v3_1 =>
  rec85 v0 v1 v3_1 v4 σ
set_option maxRecDepth 100000 in
set_option maxHeartbeats 4000000 in
theorem b_X12_cut_118 {X : kf_X} {G : kf_G} {rec7 : Nat → Int32 → kf_St → Option kf_St} {rec85 : Nat → Int32 → Int32 → Int64 → kf_St → Option kf_St} {q : kf_St} (E : kf_ok X G cX12_cut RX12 8 none (3)) (hty : kf_wt G) (hrec7 : ∀ (v0 : Nat) (v1 : Int32) (k_v0 : kf_kd G v0 = 13) (σ : kf_St), rec7 v0 v1 σ = some q → kf_WA X G 8 (kf_Q X G none q) 7 [(0, .ref (kf_ad G v0)), (1, .int v1)] [] σ) (hrec85 : ∀ (v0 : Nat) (v1 : Int32) (v3 : Int32) (v4 : Int64) (k_v0 : kf_kd G v0 = 13) (σ : kf_St), rec85 v0 v1 v3 v4 σ = some q → kf_WA X G 8 (kf_Q X G none q) 85 [(0, .ref (kf_ad G v0)), (1, .int v1), (3, .int v3), (4, .long v4)] [] σ) (v0 : Nat) (v1 : Int32) (v3 : Int32) (v4 : Int64) (k_v0 : kf_kd G v0 = 13) (σ : kf_St) (h : f_X12_cut_118 rec7 rec85 v0 v1 v3 v4 σ = some q) : kf_WA X G 8 (kf_Q X G none q) 118 [(0, .ref (kf_ad G v0)), (1, .int v1), (3, .int v3), (4, .long v4)] [] σ := by
  unfold f_X12_cut_118 at h
  obtain ⟨v3_1, ev3_1, h⟩ := kf_lte h
  refine wa_iinc (lv' := [(3, .int v3_1), (0, .ref (kf_ad G v0)), (1, .int v1), (4, .long v4)]) v3_1 2 rfl (kf_inc ic_1 ev3_1) (by decide) rfl E d_X12_cut_118 ?_
  refine wa_goto E d_X12_cut_121 ?_
  refine wa_sub [1, 2, 0, 3] rfl ?_
  exact hrec85 v0 v1 v3_1 v4 k_v0 σ h
def f_X12_cut_85_s (rec7 : Nat → Int32 → kf_St → Option kf_St) (rec85 : Nat → Int32 → Int32 → Int64 → kf_St → Option kf_St) (v0 : Nat) (v1 : Int32) (v3 : Int32) (v4 : Int64) (σ : kf_St) : Option kf_St :=
  (f_X12_byteAt v0 (v1 + v3) σ).bind fun q_1 =>
  (f_X12_isLetter q_1.1 q_1.2).bind fun q_2 =>
  if q_2.1 = 0 then
    if v3 ≤ 8 then
      f_X12_cut_135 rec7 v0 v1 v3 v4 1 q_2.2
    else
      f_X12_cut_135 rec7 v0 v1 v3 v4 3 q_2.2
  else
    if 8 ≤ v3 then
      f_X12_cut_118 rec7 rec85 v0 v1 v3 v4 q_2.2
    else
      (f_X12_byteAt v0 (v1 + v3) q_2.2).bind fun q_6 =>
      (f_X12_appends v4 q_6.1 q_6.2).bind fun q_7 =>
      f_X12_cut_118 rec7 rec85 v0 v1 v3 q_7.1 q_7.2
def f_X12_cut_85 (rec7 : Nat → Int32 → kf_St → Option kf_St) : Nat → Nat → Int32 → Int32 → Int64 → kf_St → Option kf_St
  | 0, _, _, _, _, _ => none
  | n + 1, v0, v1, v3, v4, σ => f_X12_cut_85_s rec7 (f_X12_cut_85 rec7 n) v0 v1 v3 v4 σ
set_option maxRecDepth 100000 in
set_option maxHeartbeats 4000000 in
theorem b_X12_cut_85_s {X : kf_X} {G : kf_G} {rec7 : Nat → Int32 → kf_St → Option kf_St} (rec85 : Nat → Int32 → Int32 → Int64 → kf_St → Option kf_St) {q : kf_St} (E : kf_ok X G cX12_cut RX12 8 none (3)) (hty : kf_wt G) (hrec7 : ∀ (v0 : Nat) (v1 : Int32) (k_v0 : kf_kd G v0 = 13) (σ : kf_St), rec7 v0 v1 σ = some q → kf_WA X G 8 (kf_Q X G none q) 7 [(0, .ref (kf_ad G v0)), (1, .int v1)] [] σ) (hrec85 : ∀ (v0 : Nat) (v1 : Int32) (v3 : Int32) (v4 : Int64) (k_v0 : kf_kd G v0 = 13) (σ : kf_St), rec85 v0 v1 v3 v4 σ = some q → kf_WA X G 8 (kf_Q X G none q) 85 [(0, .ref (kf_ad G v0)), (1, .int v1), (3, .int v3), (4, .long v4)] [] σ) (v0 : Nat) (v1 : Int32) (v3 : Int32) (v4 : Int64) (k_v0 : kf_kd G v0 = 13) (σ : kf_St) (h : f_X12_cut_85_s rec7 rec85 v0 v1 v3 v4 σ = some q) : kf_WA X G 8 (kf_Q X G none q) 85 [(0, .ref (kf_ad G v0)), (1, .int v1), (3, .int v3), (4, .long v4)] [] σ := by
  unfold f_X12_cut_85_s at h
  refine wa_aload_n 0 rfl E d_X12_cut_85 ?_
  refine wa_iload_n 1 rfl E d_X12_cut_86 ?_
  refine wa_iload_n 2 rfl E d_X12_cut_87 ?_
  refine wa_iadd E d_X12_cut_88 ?_
  obtain ⟨q_1, hq_1, h⟩ := kf_bd h
  refine wa_callV (st2 := [.int q_1.1]) (c_X12_byteAt hty v0 (v1 + v3) k_v0 σ hq_1) mv_X12_byteAt ml_X12_184 k_v0 rfl (Nat.le_of_ble_eq_true rfl) rfl (Nat.le_of_ble_eq_true rfl) E d_X12_cut_89 rfl ?_
  obtain ⟨q_2, hq_2, h⟩ := kf_bd h
  refine wa_callS (st2 := [.int q_2.1]) (c_X12_isLetter hty q_1.1 q_1.2 hq_2) mt_X12_isLetter ml_X12_192 rfl (Nat.le_of_ble_eq_true rfl) rfl (Nat.le_of_ble_eq_true rfl) E d_X12_cut_92 rfl ?_
  refine wa_if_eq E d_X12_cut_95 (fun c_3 => ?_) (fun c_3 => ?_)
  · replace h := kf_ift c_3 h
    refine wa_iload_n 2 rfl E d_X12_cut_124 ?_
    refine wa_bipush 8 bp_8 E d_X12_cut_125 ?_
    refine wa_icmp_le E d_X12_cut_127 (fun c_4 => ?_) (fun c_4 => ?_)
    · replace h := kf_ift c_4 h
      refine wa_iconst 1 ic_1 E d_X12_cut_134 ?_
      exact b_X12_cut_135 E hty hrec7 v0 v1 v3 v4 1 k_v0 q_2.2 h
    · replace h := kf_iff c_4 h
      refine wa_iconst 3 ic_3 E d_X12_cut_130 ?_
      refine wa_goto E d_X12_cut_131 ?_
      exact b_X12_cut_135 E hty hrec7 v0 v1 v3 v4 3 k_v0 q_2.2 h
  · replace h := kf_iff c_3 h
    refine wa_iload_n 2 rfl E d_X12_cut_98 ?_
    refine wa_bipush 8 bp_8 E d_X12_cut_99 ?_
    refine wa_icmp_ge E d_X12_cut_101 (fun c_5 => ?_) (fun c_5 => ?_)
    · replace h := kf_ift c_5 h
      exact b_X12_cut_118 E hty hrec7 hrec85 v0 v1 v3 v4 k_v0 q_2.2 h
    · replace h := kf_iff c_5 h
      refine wa_lload 3 rfl E d_X12_cut_104 ?_
      refine wa_aload_n 0 rfl E d_X12_cut_106 ?_
      refine wa_iload_n 1 rfl E d_X12_cut_107 ?_
      refine wa_iload_n 2 rfl E d_X12_cut_108 ?_
      refine wa_iadd E d_X12_cut_109 ?_
      obtain ⟨q_6, hq_6, h⟩ := kf_bd h
      refine wa_callV (st2 := [.int q_6.1, .long v4]) (c_X12_byteAt hty v0 (v1 + v3) k_v0 q_2.2 hq_6) mv_X12_byteAt ml_X12_184 k_v0 rfl (Nat.le_of_ble_eq_true rfl) rfl (Nat.le_of_ble_eq_true rfl) E d_X12_cut_110 rfl ?_
      obtain ⟨q_7, hq_7, h⟩ := kf_bd h
      refine wa_callS (st2 := [.long q_7.1]) (c_X12_appends hty v4 q_6.1 q_6.2 hq_7) mt_X12_appends ml_X12_177 rfl (Nat.le_of_ble_eq_true rfl) rfl (Nat.le_of_ble_eq_true rfl) E d_X12_cut_113 rfl ?_
      refine wa_lstore (lv' := [(4, .long q_7.1), (0, .ref (kf_ad G v0)), (1, .int v1), (3, .int v3)]) (by decide) rfl E d_X12_cut_116 ?_
      refine wa_sub [1, 2, 3, 0] rfl ?_
      exact b_X12_cut_118 E hty hrec7 hrec85 v0 v1 v3 q_7.1 k_v0 q_7.2 h
theorem b_X12_cut_85 {X : kf_X} {G : kf_G} {rec7 : Nat → Int32 → kf_St → Option kf_St} {q : kf_St} (E : kf_ok X G cX12_cut RX12 8 none (3)) (hty : kf_wt G) (hrec7 : ∀ (v0 : Nat) (v1 : Int32) (k_v0 : kf_kd G v0 = 13) (σ : kf_St), rec7 v0 v1 σ = some q → kf_WA X G 8 (kf_Q X G none q) 7 [(0, .ref (kf_ad G v0)), (1, .int v1)] [] σ) : ∀ (N : Nat) (v0 : Nat) (v1 : Int32) (v3 : Int32) (v4 : Int64) (k_v0 : kf_kd G v0 = 13) (σ : kf_St) (_ : f_X12_cut_85 rec7 N v0 v1 v3 v4 σ = some q), kf_WA X G 8 (kf_Q X G none q) 85 [(0, .ref (kf_ad G v0)), (1, .int v1), (3, .int v3), (4, .long v4)] [] σ
  | 0, _, _, _, _, _, _, h => by cases h
  | N + 1, v0, v1, v3, v4, k_v0, σ, h => b_X12_cut_85_s _ E hty hrec7 (b_X12_cut_85 E hty hrec7 N) v0 v1 v3 v4 k_v0 σ h
def f_X12_cut_7_s (rec7 : Nat → Int32 → kf_St → Option kf_St) (v0 : Nat) (v1 : Int32) (σ : kf_St) : Option kf_St :=
  if 400 < (σ.1 v0 10) then
    some σ
  else
    (f_X12_byteAt v0 v1 σ).bind fun q_2 =>
    if v1 < (q_2.2.1 v0 4) then
      if q_2.1 = 9 then
        f_X12_cut_67 rec7 v0 v1 q_2.2
      else
        if q_2.1 = 10 then
          f_X12_cut_67 rec7 v0 v1 q_2.2
        else
          if q_2.1 = 13 then
            f_X12_cut_67 rec7 v0 v1 q_2.2
          else
            if q_2.1 = 32 then
              f_X12_cut_67 rec7 v0 v1 q_2.2
            else
              (f_X12_isLetter q_2.1 q_2.2).bind fun q_8 =>
              if q_8.1 = 0 then
                (f_X12_isDigit q_2.1 q_8.2).bind fun q_10 =>
                if q_10.1 = 0 then
                  (f_X12_byteAt v0 (v1 + 1) q_10.2).bind fun q_12 =>
                  (f_X12_sign v0 v1 q_2.1 q_12.1 q_12.2).bind fun q_13 =>
                  kf_lt ((v1 + q_13.1)) fun v1_14 =>
                  rec7 v0 v1_14 q_13.2
                else
                  f_X12_cut_208 rec7 kf_F v0 v1 0 0 q_10.2
              else
                kf_lt ((0 : Int64)) fun v4_15 =>
                f_X12_cut_85 rec7 kf_F v0 v1 0 v4_15 q_8.2
    else
      (f_X12_token v0 0 (q_2.2.1 v0 4) 0 (0 : Int64) q_2.2).bind fun q_16 =>
      some q_16
def f_X12_cut_7 : Nat → Nat → Int32 → kf_St → Option kf_St
  | 0, _, _, _ => none
  | n + 1, v0, v1, σ => f_X12_cut_7_s (f_X12_cut_7 n) v0 v1 σ
set_option maxRecDepth 100000 in
set_option maxHeartbeats 4000000 in
theorem b_X12_cut_7_s {X : kf_X} {G : kf_G} (rec7 : Nat → Int32 → kf_St → Option kf_St) {q : kf_St} (E : kf_ok X G cX12_cut RX12 8 none (3)) (hty : kf_wt G) (hrec7 : ∀ (v0 : Nat) (v1 : Int32) (k_v0 : kf_kd G v0 = 13) (σ : kf_St), rec7 v0 v1 σ = some q → kf_WA X G 8 (kf_Q X G none q) 7 [(0, .ref (kf_ad G v0)), (1, .int v1)] [] σ) (v0 : Nat) (v1 : Int32) (k_v0 : kf_kd G v0 = 13) (σ : kf_St) (h : f_X12_cut_7_s rec7 v0 v1 σ = some q) : kf_WA X G 8 (kf_Q X G none q) 7 [(0, .ref (kf_ad G v0)), (1, .int v1)] [] σ := by
  unfold f_X12_cut_7_s at h
  refine wa_aload_n 0 rfl E d_X12_cut_7 ?_
  refine wa_getI fl_X12_181 k_v0 rfl E d_X12_cut_8 ?_
  refine wa_sipush 400 sp_400 E d_X12_cut_11 ?_
  refine wa_icmp_gt E d_X12_cut_14 (fun c_1 => ?_) (fun c_1 => ?_)
  · replace h := kf_ift c_1 h
    cases h
    exact wa_vret E d_X12_cut_294
  · replace h := kf_iff c_1 h
    refine wa_aload_n 0 rfl E d_X12_cut_17 ?_
    refine wa_iload_n 1 rfl E d_X12_cut_18 ?_
    obtain ⟨q_2, hq_2, h⟩ := kf_bd h
    refine wa_callV (st2 := [.int q_2.1]) (c_X12_byteAt hty v0 v1 k_v0 σ hq_2) mv_X12_byteAt ml_X12_184 k_v0 rfl (Nat.le_of_ble_eq_true rfl) rfl (Nat.le_of_ble_eq_true rfl) E d_X12_cut_19 rfl ?_
    refine wa_istore_n (lv' := [(2, .int q_2.1), (0, .ref (kf_ad G v0)), (1, .int v1)]) rfl (by decide) rfl E d_X12_cut_22 ?_
    refine wa_iload_n 2 rfl E d_X12_cut_23 ?_
    refine wa_aload_n 1 rfl E d_X12_cut_24 ?_
    refine wa_getI fl_X12_172 k_v0 rfl E d_X12_cut_25 ?_
    refine wa_icmp_lt E d_X12_cut_28 (fun c_3 => ?_) (fun c_3 => ?_)
    · replace h := kf_ift c_3 h
      refine wa_iload_n 0 rfl E d_X12_cut_43 ?_
      refine wa_bipush 9 bp_9 E d_X12_cut_44 ?_
      refine wa_icmp_eq E d_X12_cut_46 (fun c_4 => ?_) (fun c_4 => ?_)
      · replace h := kf_ift c_4 h
        refine wa_sub [1, 2] rfl ?_
        exact b_X12_cut_67 E hty hrec7 v0 v1 k_v0 q_2.2 h
      · replace h := kf_iff c_4 h
        refine wa_iload_n 0 rfl E d_X12_cut_49 ?_
        refine wa_bipush 10 bp_10 E d_X12_cut_50 ?_
        refine wa_icmp_eq E d_X12_cut_52 (fun c_5 => ?_) (fun c_5 => ?_)
        · replace h := kf_ift c_5 h
          refine wa_sub [1, 2] rfl ?_
          exact b_X12_cut_67 E hty hrec7 v0 v1 k_v0 q_2.2 h
        · replace h := kf_iff c_5 h
          refine wa_iload_n 0 rfl E d_X12_cut_55 ?_
          refine wa_bipush 13 bp_13 E d_X12_cut_56 ?_
          refine wa_icmp_eq E d_X12_cut_58 (fun c_6 => ?_) (fun c_6 => ?_)
          · replace h := kf_ift c_6 h
            refine wa_sub [1, 2] rfl ?_
            exact b_X12_cut_67 E hty hrec7 v0 v1 k_v0 q_2.2 h
          · replace h := kf_iff c_6 h
            refine wa_iload_n 0 rfl E d_X12_cut_61 ?_
            refine wa_bipush 32 bp_32 E d_X12_cut_62 ?_
            refine wa_icmp_ne E d_X12_cut_64 (fun c_7 => ?_) (fun c_7 => ?_)
            · replace h := kf_iff c_7 h
              refine wa_iload_n 0 rfl E d_X12_cut_73 ?_
              obtain ⟨q_8, hq_8, h⟩ := kf_bd h
              refine wa_callS (st2 := [.int q_8.1]) (c_X12_isLetter hty q_2.1 q_2.2 hq_8) mt_X12_isLetter ml_X12_192 rfl (Nat.le_of_ble_eq_true rfl) rfl (Nat.le_of_ble_eq_true rfl) E d_X12_cut_74 rfl ?_
              refine wa_if_eq E d_X12_cut_77 (fun c_9 => ?_) (fun c_9 => ?_)
              · replace h := kf_ift c_9 h
                refine wa_iload_n 0 rfl E d_X12_cut_196 ?_
                obtain ⟨q_10, hq_10, h⟩ := kf_bd h
                refine wa_callS (st2 := [.int q_10.1]) (c_X12_isDigit hty q_2.1 q_8.2 hq_10) mt_X12_isDigit ml_X12_196 rfl (Nat.le_of_ble_eq_true rfl) rfl (Nat.le_of_ble_eq_true rfl) E d_X12_cut_197 rfl ?_
                refine wa_if_eq E d_X12_cut_200 (fun c_11 => ?_) (fun c_11 => ?_)
                · replace h := kf_ift c_11 h
                  refine wa_iload_n 2 rfl E d_X12_cut_275 ?_
                  refine wa_aload_n 1 rfl E d_X12_cut_276 ?_
                  refine wa_iload_n 2 rfl E d_X12_cut_277 ?_
                  refine wa_iload_n 0 rfl E d_X12_cut_278 ?_
                  refine wa_aload_n 1 rfl E d_X12_cut_279 ?_
                  refine wa_iload_n 2 rfl E d_X12_cut_280 ?_
                  refine wa_iconst 1 ic_1 E d_X12_cut_281 ?_
                  refine wa_iadd E d_X12_cut_282 ?_
                  obtain ⟨q_12, hq_12, h⟩ := kf_bd h
                  refine wa_callV (st2 := [.int q_12.1, .int q_2.1, .int v1, .ref (kf_ad G v0), .int v1]) (c_X12_byteAt hty v0 (v1 + 1) k_v0 q_10.2 hq_12) mv_X12_byteAt ml_X12_184 k_v0 rfl (Nat.le_of_ble_eq_true rfl) rfl (Nat.le_of_ble_eq_true rfl) E d_X12_cut_283 rfl ?_
                  obtain ⟨q_13, hq_13, h⟩ := kf_bd h
                  refine wa_callV (st2 := [.int q_13.1, .int v1]) (c_X12_sign hty v0 v1 q_2.1 q_12.1 k_v0 q_12.2 hq_13) mv_X12_sign ml_X12_199 k_v0 rfl (Nat.le_of_ble_eq_true rfl) rfl (Nat.le_of_ble_eq_true rfl) E d_X12_cut_286 rfl ?_
                  refine wa_iadd E d_X12_cut_289 ?_
                  obtain ⟨v1_14, ev1_14, h⟩ := kf_lte h
                  refine wa_topi ev1_14 ?_
                  refine wa_istore_n (lv' := [(1, .int v1_14), (2, .int q_2.1), (0, .ref (kf_ad G v0))]) rfl (by decide) rfl E d_X12_cut_290 ?_
                  refine wa_goto E d_X12_cut_291 ?_
                  refine wa_sub [2, 0] rfl ?_
                  exact hrec7 v0 v1_14 k_v0 q_13.2 h
                · replace h := kf_iff c_11 h
                  refine wa_iconst 0 ic_0 E d_X12_cut_203 ?_
                  refine wa_istore_n (lv' := [(3, .int 0), (2, .int q_2.1), (0, .ref (kf_ad G v0)), (1, .int v1)]) rfl (by decide) rfl E d_X12_cut_204 ?_
                  refine wa_iconst 0 ic_0 E d_X12_cut_205 ?_
                  refine wa_istore (lv' := [(4, .int 0), (3, .int 0), (2, .int q_2.1), (0, .ref (kf_ad G v0)), (1, .int v1)]) (by decide) rfl E d_X12_cut_206 ?_
                  refine wa_sub [3, 4, 1, 0] rfl ?_
                  exact b_X12_cut_208 E hty hrec7 kf_F v0 v1 0 0 k_v0 q_10.2 h
              · replace h := kf_iff c_9 h
                refine wa_iconst 0 ic_0 E d_X12_cut_80 ?_
                refine wa_istore_n (lv' := [(3, .int 0), (2, .int q_2.1), (0, .ref (kf_ad G v0)), (1, .int v1)]) rfl (by decide) rfl E d_X12_cut_81 ?_
                refine wa_lconst 0 lc_0 E d_X12_cut_82 ?_
                obtain ⟨v4_15, ev4_15, h⟩ := kf_lte h
                refine wa_topl ev4_15 ?_
                refine wa_lstore (lv' := [(4, .long v4_15), (3, .int 0), (2, .int q_2.1), (0, .ref (kf_ad G v0)), (1, .int v1)]) (by decide) rfl E d_X12_cut_83 ?_
                refine wa_sub [3, 4, 1, 0] rfl ?_
                exact b_X12_cut_85 E hty hrec7 kf_F v0 v1 0 v4_15 k_v0 q_8.2 h
            · replace h := kf_ift c_7 h
              refine wa_sub [1, 2] rfl ?_
              exact b_X12_cut_67 E hty hrec7 v0 v1 k_v0 q_2.2 h
    · replace h := kf_iff c_3 h
      refine wa_aload_n 1 rfl E d_X12_cut_31 ?_
      refine wa_iconst 0 ic_0 E d_X12_cut_32 ?_
      refine wa_aload_n 1 rfl E d_X12_cut_33 ?_
      refine wa_getI fl_X12_172 k_v0 rfl E d_X12_cut_34 ?_
      refine wa_iconst 0 ic_0 E d_X12_cut_37 ?_
      refine wa_lconst 0 lc_0 E d_X12_cut_38 ?_
      obtain ⟨q_16, hq_16, h⟩ := kf_bd h
      refine wa_callV (st2 := []) (c_X12_token hty v0 0 (q_2.2.1 v0 4) 0 (0 : Int64) k_v0 q_2.2 hq_16) mv_X12_token ml_X12_188 k_v0 rfl (Nat.le_of_ble_eq_true rfl) rfl (Nat.le_of_ble_eq_true rfl) E d_X12_cut_39 rfl ?_
      cases h
      exact wa_vret E d_X12_cut_42
theorem b_X12_cut_7 {X : kf_X} {G : kf_G} {q : kf_St} (E : kf_ok X G cX12_cut RX12 8 none (3)) (hty : kf_wt G) : ∀ (N : Nat) (v0 : Nat) (v1 : Int32) (k_v0 : kf_kd G v0 = 13) (σ : kf_St) (_ : f_X12_cut_7 N v0 v1 σ = some q), kf_WA X G 8 (kf_Q X G none q) 7 [(0, .ref (kf_ad G v0)), (1, .int v1)] [] σ
  | 0, _, _, _, _, h => by cases h
  | N + 1, v0, v1, k_v0, σ, h => b_X12_cut_7_s _ E hty (b_X12_cut_7 E hty N) v0 v1 k_v0 σ h
def f_X12_cut (v0 : Nat) (σ : kf_St) : Option kf_St :=
  kf_lt (kf_wi σ v0 10 0) fun σ_1 =>
  f_X12_cut_7 kf_F v0 0 σ_1
set_option maxRecDepth 100000 in
set_option maxHeartbeats 4000000 in
theorem c_X12_cut {G : kf_G} (hty : kf_wt G) (v0 : Nat) (k_v0 : kf_kd G v0 = 13) (σ : kf_St) {q : kf_St} (h : f_X12_cut v0 σ = some q) : kf_Ct (3) yX12_cut cX12_cut 8 none G [.ref (kf_ad G v0)] σ none q := by
  refine kf_Ct.of hty.1 (lv := [(0, .ref (kf_ad G v0))]) (by decide +kernel) rfl (Nat.le_of_ble_eq_true rfl) (fun X E => ?_)
  unfold f_X12_cut at h
  refine wa_aload_n 0 rfl E d_X12_cut_0 ?_
  refine wa_iconst 0 ic_0 E d_X12_cut_1 ?_
  obtain ⟨σ_1, eσ_1, h⟩ := kf_lte h
  refine wa_putI fl_X12_181 fp_12_10 k_v0 rfl (by decide) rfl rfl E d_X12_cut_2 eσ_1 ?_
  refine wa_iconst 0 ic_0 E d_X12_cut_5 ?_
  refine wa_istore_n (lv' := [(1, .int 0), (0, .ref (kf_ad G v0))]) rfl (by decide) rfl E d_X12_cut_6 ?_
  refine wa_sub [1, 0] rfl ?_
  exact b_X12_cut_7 E hty kf_F v0 0 k_v0 σ_1 h
/-! X12_is -/
theorem d_X12_is_0 : kf_dq cX12_is 0 1 1 (.aload_n 0) := ⟨by decide +kernel, rfl⟩
theorem d_X12_is_1 : kf_dq cX12_is 1 4 3 (.getfield 203) := ⟨by decide +kernel, rfl⟩
theorem d_X12_is_4 : kf_dj cX12_is 4 7 24 (.ifCond .ne) := ⟨20, by decide +kernel, rfl, by decide⟩
theorem d_X12_is_7 : kf_dq cX12_is 7 8 1 (.aload_n 0) := ⟨by decide +kernel, rfl⟩
theorem d_X12_is_8 : kf_dq cX12_is 8 11 3 (.getfield 20) := ⟨by decide +kernel, rfl⟩
theorem d_X12_is_11 : kf_dq cX12_is 11 12 1 (.aload_n 0) := ⟨by decide +kernel, rfl⟩
theorem d_X12_is_12 : kf_dq cX12_is 12 15 3 (.getfield 206) := ⟨by decide +kernel, rfl⟩
theorem d_X12_is_15 : kf_dq cX12_is 15 16 1 (.iaload) := ⟨by decide +kernel, rfl⟩
theorem d_X12_is_16 : kf_dq cX12_is 16 17 1 (.iload_n 1) := ⟨by decide +kernel, rfl⟩
theorem d_X12_is_17 : kf_dj cX12_is 17 20 24 (.if_icmp .ne) := ⟨7, by decide +kernel, rfl, by decide⟩
theorem d_X12_is_20 : kf_dq cX12_is 20 21 1 (.iconst 1) := ⟨by decide +kernel, rfl⟩
theorem d_X12_is_21 : kf_dj cX12_is 21 24 25 .goto := ⟨4, by decide +kernel, rfl, by decide⟩
theorem d_X12_is_24 : kf_dq cX12_is 24 25 1 (.iconst 0) := ⟨by decide +kernel, rfl⟩
theorem d_X12_is_25 : kf_dq cX12_is 25 26 1 (.ireturn) := ⟨by decide +kernel, rfl⟩
def f_X12_is (v0 : Nat) (v1 : Int32) (σ : kf_St) : Option (Int32 × kf_St) :=
  if (σ.1 v0 13) = 0 then
    if kf_ix (σ.1 v0 11) (kf_ln (kf_rf v0 5)) = true then
    if (σ.1 (kf_rf v0 5) (Int32.toNatClampNeg (σ.1 v0 11))) = v1 then
      some (1, σ)
    else
      some (0, σ)
    else none
  else
    some (0, σ)
set_option maxRecDepth 100000 in
set_option maxHeartbeats 4000000 in
theorem c_X12_is {G : kf_G} (hty : kf_wt G) (v0 : Nat) (v1 : Int32) (k_v0 : kf_kd G v0 = 13) (σ : kf_St) {q : (Int32 × kf_St)} (h : f_X12_is v0 v1 σ = some q) : kf_Ct (1) yX12_is cX12_is 2 (some .boolean) G [.ref (kf_ad G v0), .int v1] σ (some (.int q.1)) q.2 := by
  refine kf_Ct.of hty.1 (lv := [(0, .ref (kf_ad G v0)), (1, .int v1)]) (by decide +kernel) rfl (Nat.le_of_ble_eq_true rfl) (fun X E => ?_)
  unfold f_X12_is at h
  refine wa_aload_n 0 rfl E d_X12_is_0 ?_
  refine wa_getI fl_X12_203 k_v0 rfl E d_X12_is_1 ?_
  refine wa_if_ne E d_X12_is_4 (fun c_1 => ?_) (fun c_1 => ?_)
  · replace h := kf_iff c_1 h
    refine wa_iconst 0 ic_0 E d_X12_is_24 ?_
    cases h
    exact wa_zret kf_z0 E d_X12_is_25
  · replace h := kf_ift c_1 h
    refine wa_aload_n 0 rfl E d_X12_is_7 ?_
    refine wa_getR fl_X12_20 k_v0 rfl E d_X12_is_8 ?_
    refine wa_aload_n 0 rfl E d_X12_is_11 ?_
    refine wa_getI fl_X12_206 k_v0 rfl E d_X12_is_12 ?_
    obtain ⟨g_2, h⟩ := kf_gd h
    refine wa_iald (kf_wtf hty 5 49 k_v0 (by decide) rfl) g_2 E d_X12_is_15 ?_
    refine wa_iload_n 1 rfl E d_X12_is_16 ?_
    refine wa_icmp_ne E d_X12_is_17 (fun c_3 => ?_) (fun c_3 => ?_)
    · replace h := kf_iff c_3 h
      refine wa_iconst 0 ic_0 E d_X12_is_24 ?_
      cases h
      exact wa_zret kf_z0 E d_X12_is_25
    · replace h := kf_ift c_3 h
      refine wa_iconst 1 ic_1 E d_X12_is_20 ?_
      refine wa_goto E d_X12_is_21 ?_
      cases h
      exact wa_zret kf_z1 E d_X12_is_25
