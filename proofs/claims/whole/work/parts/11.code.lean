/-! X0_levelOf -/
theorem d_X0_levelOf_0 : kf_dq cX0_levelOf 0 1 1 (.iconst 0) := ⟨by decide +kernel, rfl⟩
theorem d_X0_levelOf_1 : kf_dq cX0_levelOf 1 2 1 (.istore_n 2) := ⟨by decide +kernel, rfl⟩
theorem d_X0_levelOf_2 : kf_dq cX0_levelOf 2 3 1 (.iload_n 1) := ⟨by decide +kernel, rfl⟩
theorem d_X0_levelOf_3 : kf_dq cX0_levelOf 3 4 1 (.istore_n 3) := ⟨by decide +kernel, rfl⟩
theorem d_X0_levelOf_4 : kf_dq cX0_levelOf 4 5 1 (.iload_n 3) := ⟨by decide +kernel, rfl⟩
theorem d_X0_levelOf_5 : kf_dj cX0_levelOf 5 8 41 (.ifCond .le) := ⟨36, by decide +kernel, rfl, by decide⟩
theorem d_X0_levelOf_8 : kf_dq cX0_levelOf 8 9 1 (.iload_n 2) := ⟨by decide +kernel, rfl⟩
theorem d_X0_levelOf_9 : kf_dq cX0_levelOf 9 10 1 (.iconst 4) := ⟨by decide +kernel, rfl⟩
theorem d_X0_levelOf_10 : kf_dj cX0_levelOf 10 13 41 (.if_icmp .ge) := ⟨31, by decide +kernel, rfl, by decide⟩
theorem d_X0_levelOf_13 : kf_dq cX0_levelOf 13 14 1 (.aload_n 0) := ⟨by decide +kernel, rfl⟩
theorem d_X0_levelOf_14 : kf_dq cX0_levelOf 14 17 3 (.getfield 9) := ⟨by decide +kernel, rfl⟩
theorem d_X0_levelOf_17 : kf_dq cX0_levelOf 17 20 3 (.getfield 78) := ⟨by decide +kernel, rfl⟩
theorem d_X0_levelOf_20 : kf_dj cX0_levelOf 20 23 41 (.ifCond .le) := ⟨21, by decide +kernel, rfl, by decide⟩
theorem d_X0_levelOf_23 : kf_dq cX0_levelOf 23 24 1 (.iload_n 3) := ⟨by decide +kernel, rfl⟩
theorem d_X0_levelOf_24 : kf_dq cX0_levelOf 24 25 1 (.iconst 1) := ⟨by decide +kernel, rfl⟩
theorem d_X0_levelOf_25 : kf_dq cX0_levelOf 25 26 1 (.isub) := ⟨by decide +kernel, rfl⟩
theorem d_X0_levelOf_26 : kf_dq cX0_levelOf 26 27 1 (.aload_n 0) := ⟨by decide +kernel, rfl⟩
theorem d_X0_levelOf_27 : kf_dq cX0_levelOf 27 30 3 (.getfield 9) := ⟨by decide +kernel, rfl⟩
theorem d_X0_levelOf_30 : kf_dq cX0_levelOf 30 33 3 (.getfield 78) := ⟨by decide +kernel, rfl⟩
theorem d_X0_levelOf_33 : kf_dq cX0_levelOf 33 34 1 (.idiv) := ⟨by decide +kernel, rfl⟩
theorem d_X0_levelOf_34 : kf_dq cX0_levelOf 34 35 1 (.istore_n 3) := ⟨by decide +kernel, rfl⟩
theorem d_X0_levelOf_35 : kf_dq cX0_levelOf 35 38 3 (.iinc 2 1) := ⟨by decide +kernel, rfl⟩
theorem d_X0_levelOf_38 : kf_dj cX0_levelOf 38 41 4 .goto := ⟨(-34), by decide +kernel, rfl, by decide⟩
theorem d_X0_levelOf_41 : kf_dq cX0_levelOf 41 42 1 (.iload_n 2) := ⟨by decide +kernel, rfl⟩
theorem d_X0_levelOf_42 : kf_dq cX0_levelOf 42 43 1 (.ireturn) := ⟨by decide +kernel, rfl⟩
def f_X0_levelOf_4_s (rec4 : Nat → Int32 → Int32 → kf_St → Option (Int32 × kf_St)) (v0 : Nat) (v2 : Int32) (v3 : Int32) (σ : kf_St) : Option (Int32 × kf_St) :=
  if v3 ≤ 0 then
    some (v2, σ)
  else
    if 4 ≤ v2 then
      some (v2, σ)
    else
      if (σ.1 (kf_rf v0 0) 1) ≤ 0 then
        some (v2, σ)
      else
        if (σ.1 (kf_rf v0 0) 1) = 0 then none else
        kf_lt (((v3 - 1) / (σ.1 (kf_rf v0 0) 1))) fun v3_5 =>
        kf_lt (v2 + 1) fun v2_6 =>
        rec4 v0 v2_6 v3_5 σ
def f_X0_levelOf_4 : Nat → Nat → Int32 → Int32 → kf_St → Option (Int32 × kf_St)
  | 0, _, _, _, _ => none
  | n + 1, v0, v2, v3, σ => f_X0_levelOf_4_s (f_X0_levelOf_4 n) v0 v2 v3 σ
set_option maxRecDepth 100000 in
set_option maxHeartbeats 4000000 in
theorem b_X0_levelOf_4_s {X : kf_X} {G : kf_G} (rec4 : Nat → Int32 → Int32 → kf_St → Option (Int32 × kf_St)) {q : (Int32 × kf_St)} (E : kf_ok X G cX0_levelOf RX0 4 (some .int) (1)) (hty : kf_wt G) (hrec4 : ∀ (v0 : Nat) (v2 : Int32) (v3 : Int32) (k_v0 : kf_kd G v0 = 1) (σ : kf_St), rec4 v0 v2 v3 σ = some q → kf_WA X G 4 (kf_Q X G (some (.int q.1)) q.2) 4 [(0, .ref (kf_ad G v0)), (2, .int v2), (3, .int v3)] [] σ) (v0 : Nat) (v2 : Int32) (v3 : Int32) (k_v0 : kf_kd G v0 = 1) (σ : kf_St) (h : f_X0_levelOf_4_s rec4 v0 v2 v3 σ = some q) : kf_WA X G 4 (kf_Q X G (some (.int q.1)) q.2) 4 [(0, .ref (kf_ad G v0)), (2, .int v2), (3, .int v3)] [] σ := by
  unfold f_X0_levelOf_4_s at h
  refine wa_iload_n 2 rfl E d_X0_levelOf_4 ?_
  refine wa_if_le E d_X0_levelOf_5 (fun c_1 => ?_) (fun c_1 => ?_)
  · replace h := kf_ift c_1 h
    refine wa_iload_n 1 rfl E d_X0_levelOf_41 ?_
    cases h
    exact wa_iret E d_X0_levelOf_42
  · replace h := kf_iff c_1 h
    refine wa_iload_n 1 rfl E d_X0_levelOf_8 ?_
    refine wa_iconst 4 ic_4 E d_X0_levelOf_9 ?_
    refine wa_icmp_ge E d_X0_levelOf_10 (fun c_2 => ?_) (fun c_2 => ?_)
    · replace h := kf_ift c_2 h
      refine wa_iload_n 1 rfl E d_X0_levelOf_41 ?_
      cases h
      exact wa_iret E d_X0_levelOf_42
    · replace h := kf_iff c_2 h
      refine wa_aload_n 0 rfl E d_X0_levelOf_13 ?_
      refine wa_getR fl_X0_9 k_v0 rfl E d_X0_levelOf_14 ?_
      refine wa_getI fl_X0_78 (kf_wtf hty 0 10 k_v0 (by decide) rfl) rfl E d_X0_levelOf_17 ?_
      refine wa_if_le E d_X0_levelOf_20 (fun c_3 => ?_) (fun c_3 => ?_)
      · replace h := kf_ift c_3 h
        refine wa_iload_n 1 rfl E d_X0_levelOf_41 ?_
        cases h
        exact wa_iret E d_X0_levelOf_42
      · replace h := kf_iff c_3 h
        refine wa_iload_n 2 rfl E d_X0_levelOf_23 ?_
        refine wa_iconst 1 ic_1 E d_X0_levelOf_24 ?_
        refine wa_isub E d_X0_levelOf_25 ?_
        refine wa_aload_n 0 rfl E d_X0_levelOf_26 ?_
        refine wa_getR fl_X0_9 k_v0 rfl E d_X0_levelOf_27 ?_
        refine wa_getI fl_X0_78 (kf_wtf hty 0 10 k_v0 (by decide) rfl) rfl E d_X0_levelOf_30 ?_
        obtain ⟨g_4, h⟩ := kf_gn h
        refine wa_idiv g_4 E d_X0_levelOf_33 ?_
        obtain ⟨v3_5, ev3_5, h⟩ := kf_lte h
        refine wa_topi ev3_5 ?_
        refine wa_istore_n (lv' := [(3, .int v3_5), (0, .ref (kf_ad G v0)), (2, .int v2)]) rfl (by decide) rfl E d_X0_levelOf_34 ?_
        obtain ⟨v2_6, ev2_6, h⟩ := kf_lte h
        refine wa_iinc (lv' := [(2, .int v2_6), (3, .int v3_5), (0, .ref (kf_ad G v0))]) v2_6 2 rfl (kf_inc ic_1 ev2_6) (by decide) rfl E d_X0_levelOf_35 ?_
        refine wa_goto E d_X0_levelOf_38 ?_
        refine wa_sub [2, 0, 1] rfl ?_
        exact hrec4 v0 v2_6 v3_5 k_v0 σ h
theorem b_X0_levelOf_4 {X : kf_X} {G : kf_G} {q : (Int32 × kf_St)} (E : kf_ok X G cX0_levelOf RX0 4 (some .int) (1)) (hty : kf_wt G) : ∀ (N : Nat) (v0 : Nat) (v2 : Int32) (v3 : Int32) (k_v0 : kf_kd G v0 = 1) (σ : kf_St) (_ : f_X0_levelOf_4 N v0 v2 v3 σ = some q), kf_WA X G 4 (kf_Q X G (some (.int q.1)) q.2) 4 [(0, .ref (kf_ad G v0)), (2, .int v2), (3, .int v3)] [] σ
  | 0, _, _, _, _, _, h => by cases h
  | N + 1, v0, v2, v3, k_v0, σ, h => b_X0_levelOf_4_s _ E hty (b_X0_levelOf_4 E hty N) v0 v2 v3 k_v0 σ h
def f_X0_levelOf (v0 : Nat) (v1 : Int32) (σ : kf_St) : Option (Int32 × kf_St) :=
  f_X0_levelOf_4 kf_F v0 0 v1 σ
set_option maxRecDepth 100000 in
set_option maxHeartbeats 4000000 in
theorem c_X0_levelOf {G : kf_G} (hty : kf_wt G) (v0 : Nat) (v1 : Int32) (k_v0 : kf_kd G v0 = 1) (σ : kf_St) {q : (Int32 × kf_St)} (h : f_X0_levelOf v0 v1 σ = some q) : kf_Ct (1) yX0_levelOf cX0_levelOf 4 (some .int) G [.ref (kf_ad G v0), .int v1] σ (some (.int q.1)) q.2 := by
  refine kf_Ct.of hty.1 (lv := [(0, .ref (kf_ad G v0)), (1, .int v1)]) (by decide +kernel) rfl (Nat.le_of_ble_eq_true rfl) (fun X E => ?_)
  unfold f_X0_levelOf at h
  refine wa_iconst 0 ic_0 E d_X0_levelOf_0 ?_
  refine wa_istore_n (lv' := [(2, .int 0), (0, .ref (kf_ad G v0)), (1, .int v1)]) rfl (by decide) rfl E d_X0_levelOf_1 ?_
  refine wa_iload_n 2 rfl E d_X0_levelOf_2 ?_
  refine wa_istore_n (lv' := [(3, .int v1), (2, .int 0), (0, .ref (kf_ad G v0)), (1, .int v1)]) rfl (by decide) rfl E d_X0_levelOf_3 ?_
  refine wa_sub [2, 1, 0] rfl ?_
  exact b_X0_levelOf_4 E hty kf_F v0 0 v1 k_v0 σ h
/-! X0_nodeKnownBy -/
theorem d_X0_nodeKnownBy_0 : kf_dq cX0_nodeKnownBy 0 1 1 (.aload_n 0) := ⟨by decide +kernel, rfl⟩
theorem d_X0_nodeKnownBy_1 : kf_dq cX0_nodeKnownBy 1 4 3 (.getfield 9) := ⟨by decide +kernel, rfl⟩
theorem d_X0_nodeKnownBy_4 : kf_dq cX0_nodeKnownBy 4 7 3 (.getfield 78) := ⟨by decide +kernel, rfl⟩
theorem d_X0_nodeKnownBy_7 : kf_dq cX0_nodeKnownBy 7 8 1 (.istore_n 3) := ⟨by decide +kernel, rfl⟩
theorem d_X0_nodeKnownBy_8 : kf_dq cX0_nodeKnownBy 8 9 1 (.aload_n 0) := ⟨by decide +kernel, rfl⟩
theorem d_X0_nodeKnownBy_9 : kf_dq cX0_nodeKnownBy 9 12 3 (.getfield 26) := ⟨by decide +kernel, rfl⟩
theorem d_X0_nodeKnownBy_12 : kf_dq cX0_nodeKnownBy 12 13 1 (.aload_n 0) := ⟨by decide +kernel, rfl⟩
theorem d_X0_nodeKnownBy_13 : kf_dq cX0_nodeKnownBy 13 16 3 (.getfield 15) := ⟨by decide +kernel, rfl⟩
theorem d_X0_nodeKnownBy_16 : kf_dq cX0_nodeKnownBy 16 19 3 (.getfield 34) := ⟨by decide +kernel, rfl⟩
theorem d_X0_nodeKnownBy_19 : kf_dq cX0_nodeKnownBy 19 20 1 (.iload_n 1) := ⟨by decide +kernel, rfl⟩
theorem d_X0_nodeKnownBy_20 : kf_dq cX0_nodeKnownBy 20 21 1 (.aaload) := ⟨by decide +kernel, rfl⟩
theorem d_X0_nodeKnownBy_21 : kf_dq cX0_nodeKnownBy 21 24 3 (.invokevirtual 40) := ⟨by decide +kernel, rfl⟩
theorem d_X0_nodeKnownBy_24 : kf_dq cX0_nodeKnownBy 24 25 1 (.iload_n 3) := ⟨by decide +kernel, rfl⟩
theorem d_X0_nodeKnownBy_25 : kf_dq cX0_nodeKnownBy 25 26 1 (.iconst 1) := ⟨by decide +kernel, rfl⟩
theorem d_X0_nodeKnownBy_26 : kf_dj cX0_nodeKnownBy 26 29 47 (.if_icmp .lt) := ⟨21, by decide +kernel, rfl, by decide⟩
theorem d_X0_nodeKnownBy_29 : kf_dq cX0_nodeKnownBy 29 30 1 (.aload_n 0) := ⟨by decide +kernel, rfl⟩
theorem d_X0_nodeKnownBy_30 : kf_dq cX0_nodeKnownBy 30 33 3 (.getfield 9) := ⟨by decide +kernel, rfl⟩
theorem d_X0_nodeKnownBy_33 : kf_dq cX0_nodeKnownBy 33 34 1 (.aload_n 0) := ⟨by decide +kernel, rfl⟩
theorem d_X0_nodeKnownBy_34 : kf_dq cX0_nodeKnownBy 34 37 3 (.getfield 26) := ⟨by decide +kernel, rfl⟩
theorem d_X0_nodeKnownBy_37 : kf_dq cX0_nodeKnownBy 37 40 3 (.getfield 54) := ⟨by decide +kernel, rfl⟩
theorem d_X0_nodeKnownBy_40 : kf_dq cX0_nodeKnownBy 40 43 3 (.invokevirtual 57) := ⟨by decide +kernel, rfl⟩
theorem d_X0_nodeKnownBy_43 : kf_dq cX0_nodeKnownBy 43 44 1 (.iload_n 2) := ⟨by decide +kernel, rfl⟩
theorem d_X0_nodeKnownBy_44 : kf_dj cX0_nodeKnownBy 44 47 59 (.if_icmp .ne) := ⟨15, by decide +kernel, rfl, by decide⟩
theorem d_X0_nodeKnownBy_47 : kf_dq cX0_nodeKnownBy 47 48 1 (.iload_n 3) := ⟨by decide +kernel, rfl⟩
theorem d_X0_nodeKnownBy_48 : kf_dq cX0_nodeKnownBy 48 49 1 (.iconst 1) := ⟨by decide +kernel, rfl⟩
theorem d_X0_nodeKnownBy_49 : kf_dj cX0_nodeKnownBy 49 52 57 (.if_icmp .ge) := ⟨8, by decide +kernel, rfl, by decide⟩
theorem d_X0_nodeKnownBy_52 : kf_dq cX0_nodeKnownBy 52 54 2 (.bipush (-2)) := ⟨by decide +kernel, rfl⟩
theorem d_X0_nodeKnownBy_54 : kf_dj cX0_nodeKnownBy 54 57 58 .goto := ⟨4, by decide +kernel, rfl, by decide⟩
theorem d_X0_nodeKnownBy_57 : kf_dq cX0_nodeKnownBy 57 58 1 (.iconst 0) := ⟨by decide +kernel, rfl⟩
theorem d_X0_nodeKnownBy_58 : kf_dq cX0_nodeKnownBy 58 59 1 (.ireturn) := ⟨by decide +kernel, rfl⟩
theorem d_X0_nodeKnownBy_59 : kf_dq cX0_nodeKnownBy 59 60 1 (.aload_n 0) := ⟨by decide +kernel, rfl⟩
theorem d_X0_nodeKnownBy_60 : kf_dq cX0_nodeKnownBy 60 63 3 (.getfield 26) := ⟨by decide +kernel, rfl⟩
theorem d_X0_nodeKnownBy_63 : kf_dq cX0_nodeKnownBy 63 66 3 (.getfield 54) := ⟨by decide +kernel, rfl⟩
theorem d_X0_nodeKnownBy_66 : kf_dq cX0_nodeKnownBy 66 67 1 (.iconst 0) := ⟨by decide +kernel, rfl⟩
theorem d_X0_nodeKnownBy_67 : kf_dq cX0_nodeKnownBy 67 68 1 (.aload_n 0) := ⟨by decide +kernel, rfl⟩
theorem d_X0_nodeKnownBy_68 : kf_dq cX0_nodeKnownBy 68 71 3 (.getfield 30) := ⟨by decide +kernel, rfl⟩
theorem d_X0_nodeKnownBy_71 : kf_dq cX0_nodeKnownBy 71 72 1 (.iconst 0) := ⟨by decide +kernel, rfl⟩
theorem d_X0_nodeKnownBy_72 : kf_dq cX0_nodeKnownBy 72 73 1 (.iconst 4) := ⟨by decide +kernel, rfl⟩
theorem d_X0_nodeKnownBy_73 : kf_dq cX0_nodeKnownBy 73 76 3 (.invokestatic 81) := ⟨by decide +kernel, rfl⟩
theorem d_X0_nodeKnownBy_76 : kf_dq cX0_nodeKnownBy 76 77 1 (.aload_n 0) := ⟨by decide +kernel, rfl⟩
theorem d_X0_nodeKnownBy_77 : kf_dq cX0_nodeKnownBy 77 78 1 (.iconst 5) := ⟨by decide +kernel, rfl⟩
theorem d_X0_nodeKnownBy_78 : kf_dq cX0_nodeKnownBy 78 81 3 (.invokevirtual 87) := ⟨by decide +kernel, rfl⟩
theorem d_X0_nodeKnownBy_81 : kf_dq cX0_nodeKnownBy 81 83 2 (.istore 4) := ⟨by decide +kernel, rfl⟩
theorem d_X0_nodeKnownBy_83 : kf_dq cX0_nodeKnownBy 83 84 1 (.iconst 1) := ⟨by decide +kernel, rfl⟩
theorem d_X0_nodeKnownBy_84 : kf_dq cX0_nodeKnownBy 84 86 2 (.istore 5) := ⟨by decide +kernel, rfl⟩
theorem d_X0_nodeKnownBy_86 : kf_dq cX0_nodeKnownBy 86 88 2 (.iload 5) := ⟨by decide +kernel, rfl⟩
theorem d_X0_nodeKnownBy_88 : kf_dq cX0_nodeKnownBy 88 90 2 (.iload 4) := ⟨by decide +kernel, rfl⟩
theorem d_X0_nodeKnownBy_90 : kf_dj cX0_nodeKnownBy 90 93 230 (.if_icmp .ge) := ⟨140, by decide +kernel, rfl, by decide⟩
theorem d_X0_nodeKnownBy_93 : kf_dq cX0_nodeKnownBy 93 95 2 (.iload 5) := ⟨by decide +kernel, rfl⟩
theorem d_X0_nodeKnownBy_95 : kf_dq cX0_nodeKnownBy 95 96 1 (.iconst 1) := ⟨by decide +kernel, rfl⟩
theorem d_X0_nodeKnownBy_96 : kf_dq cX0_nodeKnownBy 96 97 1 (.isub) := ⟨by decide +kernel, rfl⟩
theorem d_X0_nodeKnownBy_97 : kf_dq cX0_nodeKnownBy 97 98 1 (.iload_n 3) := ⟨by decide +kernel, rfl⟩
theorem d_X0_nodeKnownBy_98 : kf_dq cX0_nodeKnownBy 98 99 1 (.idiv) := ⟨by decide +kernel, rfl⟩
theorem d_X0_nodeKnownBy_99 : kf_dq cX0_nodeKnownBy 99 101 2 (.istore 6) := ⟨by decide +kernel, rfl⟩
theorem d_X0_nodeKnownBy_101 : kf_dq cX0_nodeKnownBy 101 102 1 (.aload_n 0) := ⟨by decide +kernel, rfl⟩
theorem d_X0_nodeKnownBy_102 : kf_dq cX0_nodeKnownBy 102 105 3 (.getfield 30) := ⟨by decide +kernel, rfl⟩
theorem d_X0_nodeKnownBy_105 : kf_dq cX0_nodeKnownBy 105 106 1 (.iconst 4) := ⟨by decide +kernel, rfl⟩
theorem d_X0_nodeKnownBy_106 : kf_dq cX0_nodeKnownBy 106 108 2 (.iload 6) := ⟨by decide +kernel, rfl⟩
theorem d_X0_nodeKnownBy_108 : kf_dq cX0_nodeKnownBy 108 109 1 (.imul) := ⟨by decide +kernel, rfl⟩
theorem d_X0_nodeKnownBy_109 : kf_dq cX0_nodeKnownBy 109 110 1 (.aload_n 0) := ⟨by decide +kernel, rfl⟩
theorem d_X0_nodeKnownBy_110 : kf_dq cX0_nodeKnownBy 110 113 3 (.getfield 26) := ⟨by decide +kernel, rfl⟩
theorem d_X0_nodeKnownBy_113 : kf_dq cX0_nodeKnownBy 113 116 3 (.getfield 54) := ⟨by decide +kernel, rfl⟩
theorem d_X0_nodeKnownBy_116 : kf_dq cX0_nodeKnownBy 116 117 1 (.iconst 0) := ⟨by decide +kernel, rfl⟩
theorem d_X0_nodeKnownBy_117 : kf_dq cX0_nodeKnownBy 117 118 1 (.iconst 4) := ⟨by decide +kernel, rfl⟩
theorem d_X0_nodeKnownBy_118 : kf_dq cX0_nodeKnownBy 118 121 3 (.invokestatic 81) := ⟨by decide +kernel, rfl⟩
theorem d_X0_nodeKnownBy_121 : kf_dq cX0_nodeKnownBy 121 122 1 (.aload_n 0) := ⟨by decide +kernel, rfl⟩
theorem d_X0_nodeKnownBy_122 : kf_dq cX0_nodeKnownBy 122 125 3 (.getfield 26) := ⟨by decide +kernel, rfl⟩
theorem d_X0_nodeKnownBy_125 : kf_dq cX0_nodeKnownBy 125 126 1 (.aload_n 0) := ⟨by decide +kernel, rfl⟩
theorem d_X0_nodeKnownBy_126 : kf_dq cX0_nodeKnownBy 126 129 3 (.getfield 15) := ⟨by decide +kernel, rfl⟩
theorem d_X0_nodeKnownBy_129 : kf_dq cX0_nodeKnownBy 129 132 3 (.getfield 34) := ⟨by decide +kernel, rfl⟩
theorem d_X0_nodeKnownBy_132 : kf_dq cX0_nodeKnownBy 132 133 1 (.iload_n 1) := ⟨by decide +kernel, rfl⟩
theorem d_X0_nodeKnownBy_133 : kf_dq cX0_nodeKnownBy 133 134 1 (.aaload) := ⟨by decide +kernel, rfl⟩
theorem d_X0_nodeKnownBy_134 : kf_dq cX0_nodeKnownBy 134 137 3 (.getfield 91) := ⟨by decide +kernel, rfl⟩
theorem d_X0_nodeKnownBy_137 : kf_dq cX0_nodeKnownBy 137 138 1 (.aload_n 0) := ⟨by decide +kernel, rfl⟩
theorem d_X0_nodeKnownBy_138 : kf_dq cX0_nodeKnownBy 138 140 2 (.iload 6) := ⟨by decide +kernel, rfl⟩
theorem d_X0_nodeKnownBy_140 : kf_dq cX0_nodeKnownBy 140 143 3 (.invokevirtual 94) := ⟨by decide +kernel, rfl⟩
theorem d_X0_nodeKnownBy_143 : kf_dq cX0_nodeKnownBy 143 144 1 (.iadd) := ⟨by decide +kernel, rfl⟩
theorem d_X0_nodeKnownBy_144 : kf_dq cX0_nodeKnownBy 144 147 3 (.putfield 91) := ⟨by decide +kernel, rfl⟩
theorem d_X0_nodeKnownBy_147 : kf_dq cX0_nodeKnownBy 147 148 1 (.aload_n 0) := ⟨by decide +kernel, rfl⟩
theorem d_X0_nodeKnownBy_148 : kf_dq cX0_nodeKnownBy 148 151 3 (.getfield 19) := ⟨by decide +kernel, rfl⟩
theorem d_X0_nodeKnownBy_151 : kf_dq cX0_nodeKnownBy 151 152 1 (.aload_n 0) := ⟨by decide +kernel, rfl⟩
theorem d_X0_nodeKnownBy_152 : kf_dq cX0_nodeKnownBy 152 155 3 (.getfield 26) := ⟨by decide +kernel, rfl⟩
theorem d_X0_nodeKnownBy_155 : kf_dq cX0_nodeKnownBy 155 157 2 (.iload 5) := ⟨by decide +kernel, rfl⟩
theorem d_X0_nodeKnownBy_157 : kf_dq cX0_nodeKnownBy 157 158 1 (.iconst 1) := ⟨by decide +kernel, rfl⟩
theorem d_X0_nodeKnownBy_158 : kf_dq cX0_nodeKnownBy 158 159 1 (.isub) := ⟨by decide +kernel, rfl⟩
theorem d_X0_nodeKnownBy_159 : kf_dq cX0_nodeKnownBy 159 160 1 (.iload_n 3) := ⟨by decide +kernel, rfl⟩
theorem d_X0_nodeKnownBy_160 : kf_dq cX0_nodeKnownBy 160 161 1 (.irem) := ⟨by decide +kernel, rfl⟩
theorem d_X0_nodeKnownBy_161 : kf_dq cX0_nodeKnownBy 161 162 1 (.aload_n 0) := ⟨by decide +kernel, rfl⟩
theorem d_X0_nodeKnownBy_162 : kf_dq cX0_nodeKnownBy 162 165 3 (.getfield 15) := ⟨by decide +kernel, rfl⟩
theorem d_X0_nodeKnownBy_165 : kf_dq cX0_nodeKnownBy 165 168 3 (.getfield 44) := ⟨by decide +kernel, rfl⟩
theorem d_X0_nodeKnownBy_168 : kf_dq cX0_nodeKnownBy 168 171 3 (.invokevirtual 70) := ⟨by decide +kernel, rfl⟩
theorem d_X0_nodeKnownBy_171 : kf_dq cX0_nodeKnownBy 171 172 1 (.aload_n 0) := ⟨by decide +kernel, rfl⟩
theorem d_X0_nodeKnownBy_172 : kf_dq cX0_nodeKnownBy 172 175 3 (.getfield 9) := ⟨by decide +kernel, rfl⟩
theorem d_X0_nodeKnownBy_175 : kf_dq cX0_nodeKnownBy 175 176 1 (.aload_n 0) := ⟨by decide +kernel, rfl⟩
theorem d_X0_nodeKnownBy_176 : kf_dq cX0_nodeKnownBy 176 179 3 (.getfield 26) := ⟨by decide +kernel, rfl⟩
theorem d_X0_nodeKnownBy_179 : kf_dq cX0_nodeKnownBy 179 182 3 (.getfield 54) := ⟨by decide +kernel, rfl⟩
theorem d_X0_nodeKnownBy_182 : kf_dq cX0_nodeKnownBy 182 185 3 (.invokevirtual 57) := ⟨by decide +kernel, rfl⟩
theorem d_X0_nodeKnownBy_185 : kf_dq cX0_nodeKnownBy 185 186 1 (.iload_n 2) := ⟨by decide +kernel, rfl⟩
theorem d_X0_nodeKnownBy_186 : kf_dj cX0_nodeKnownBy 186 189 192 (.if_icmp .ne) := ⟨6, by decide +kernel, rfl, by decide⟩
theorem d_X0_nodeKnownBy_189 : kf_dq cX0_nodeKnownBy 189 191 2 (.iload 5) := ⟨by decide +kernel, rfl⟩
theorem d_X0_nodeKnownBy_191 : kf_dq cX0_nodeKnownBy 191 192 1 (.ireturn) := ⟨by decide +kernel, rfl⟩
theorem d_X0_nodeKnownBy_192 : kf_dq cX0_nodeKnownBy 192 193 1 (.iconst 4) := ⟨by decide +kernel, rfl⟩
theorem d_X0_nodeKnownBy_193 : kf_dq cX0_nodeKnownBy 193 195 2 (.iload 5) := ⟨by decide +kernel, rfl⟩
theorem d_X0_nodeKnownBy_195 : kf_dq cX0_nodeKnownBy 195 196 1 (.imul) := ⟨by decide +kernel, rfl⟩
theorem d_X0_nodeKnownBy_196 : kf_dq cX0_nodeKnownBy 196 197 1 (.aload_n 0) := ⟨by decide +kernel, rfl⟩
theorem d_X0_nodeKnownBy_197 : kf_dq cX0_nodeKnownBy 197 200 3 (.getfield 30) := ⟨by decide +kernel, rfl⟩
theorem d_X0_nodeKnownBy_200 : kf_dq cX0_nodeKnownBy 200 201 1 (.arraylength) := ⟨by decide +kernel, rfl⟩
theorem d_X0_nodeKnownBy_201 : kf_dj cX0_nodeKnownBy 201 204 224 (.if_icmp .ge) := ⟨23, by decide +kernel, rfl, by decide⟩
theorem d_X0_nodeKnownBy_204 : kf_dq cX0_nodeKnownBy 204 205 1 (.aload_n 0) := ⟨by decide +kernel, rfl⟩
theorem d_X0_nodeKnownBy_205 : kf_dq cX0_nodeKnownBy 205 208 3 (.getfield 26) := ⟨by decide +kernel, rfl⟩
theorem d_X0_nodeKnownBy_208 : kf_dq cX0_nodeKnownBy 208 211 3 (.getfield 54) := ⟨by decide +kernel, rfl⟩
theorem d_X0_nodeKnownBy_211 : kf_dq cX0_nodeKnownBy 211 212 1 (.iconst 0) := ⟨by decide +kernel, rfl⟩
theorem d_X0_nodeKnownBy_212 : kf_dq cX0_nodeKnownBy 212 213 1 (.aload_n 0) := ⟨by decide +kernel, rfl⟩
theorem d_X0_nodeKnownBy_213 : kf_dq cX0_nodeKnownBy 213 216 3 (.getfield 30) := ⟨by decide +kernel, rfl⟩
theorem d_X0_nodeKnownBy_216 : kf_dq cX0_nodeKnownBy 216 217 1 (.iconst 4) := ⟨by decide +kernel, rfl⟩
theorem d_X0_nodeKnownBy_217 : kf_dq cX0_nodeKnownBy 217 219 2 (.iload 5) := ⟨by decide +kernel, rfl⟩
theorem d_X0_nodeKnownBy_219 : kf_dq cX0_nodeKnownBy 219 220 1 (.imul) := ⟨by decide +kernel, rfl⟩
theorem d_X0_nodeKnownBy_220 : kf_dq cX0_nodeKnownBy 220 221 1 (.iconst 4) := ⟨by decide +kernel, rfl⟩
theorem d_X0_nodeKnownBy_221 : kf_dq cX0_nodeKnownBy 221 224 3 (.invokestatic 81) := ⟨by decide +kernel, rfl⟩
theorem d_X0_nodeKnownBy_224 : kf_dq cX0_nodeKnownBy 224 227 3 (.iinc 5 1) := ⟨by decide +kernel, rfl⟩
theorem d_X0_nodeKnownBy_227 : kf_dj cX0_nodeKnownBy 227 230 86 .goto := ⟨(-141), by decide +kernel, rfl, by decide⟩
theorem d_X0_nodeKnownBy_230 : kf_dq cX0_nodeKnownBy 230 232 2 (.bipush (-2)) := ⟨by decide +kernel, rfl⟩
theorem d_X0_nodeKnownBy_232 : kf_dq cX0_nodeKnownBy 232 233 1 (.ireturn) := ⟨by decide +kernel, rfl⟩
def f_X0_nodeKnownBy_47 (v3 : Int32) (σ : kf_St) : Option (Int32 × kf_St) :=
  if 1 ≤ v3 then
    some (0, σ)
  else
    some ((-2), σ)
set_option maxRecDepth 100000 in
set_option maxHeartbeats 4000000 in
theorem b_X0_nodeKnownBy_47 {X : kf_X} {G : kf_G} {q : (Int32 × kf_St)} (E : kf_ok X G cX0_nodeKnownBy RX0 7 (some .int) (6)) (hty : kf_wt G) (v3 : Int32) (σ : kf_St) (h : f_X0_nodeKnownBy_47 v3 σ = some q) : kf_WA X G 7 (kf_Q X G (some (.int q.1)) q.2) 47 [(3, .int v3)] [] σ := by
  unfold f_X0_nodeKnownBy_47 at h
  refine wa_iload_n 0 rfl E d_X0_nodeKnownBy_47 ?_
  refine wa_iconst 1 ic_1 E d_X0_nodeKnownBy_48 ?_
  refine wa_icmp_ge E d_X0_nodeKnownBy_49 (fun c_1 => ?_) (fun c_1 => ?_)
  · replace h := kf_ift c_1 h
    refine wa_iconst 0 ic_0 E d_X0_nodeKnownBy_57 ?_
    cases h
    exact wa_iret E d_X0_nodeKnownBy_58
  · replace h := kf_iff c_1 h
    refine wa_bipush (-2) bp_m2 E d_X0_nodeKnownBy_52 ?_
    refine wa_goto E d_X0_nodeKnownBy_54 ?_
    cases h
    exact wa_iret E d_X0_nodeKnownBy_58
def f_X0_nodeKnownBy_224 (rec86 : Nat → Int32 → Int32 → Int32 → Int32 → Int32 → kf_St → Option (Int32 × kf_St)) (v0 : Nat) (v1 : Int32) (v2 : Int32) (v3 : Int32) (v4 : Int32) (v5 : Int32) (σ : kf_St) : Option (Int32 × kf_St) :=
  kf_lt (v5 + 1) fun v5_1 =>
  rec86 v0 v1 v2 v3 v4 v5_1 σ
set_option maxRecDepth 100000 in
set_option maxHeartbeats 4000000 in
theorem b_X0_nodeKnownBy_224 {X : kf_X} {G : kf_G} {rec86 : Nat → Int32 → Int32 → Int32 → Int32 → Int32 → kf_St → Option (Int32 × kf_St)} {q : (Int32 × kf_St)} (E : kf_ok X G cX0_nodeKnownBy RX0 7 (some .int) (6)) (hty : kf_wt G) (hrec86 : ∀ (v0 : Nat) (v1 : Int32) (v2 : Int32) (v3 : Int32) (v4 : Int32) (v5 : Int32) (k_v0 : kf_kd G v0 = 1) (σ : kf_St), rec86 v0 v1 v2 v3 v4 v5 σ = some q → kf_WA X G 7 (kf_Q X G (some (.int q.1)) q.2) 86 [(0, .ref (kf_ad G v0)), (1, .int v1), (2, .int v2), (3, .int v3), (4, .int v4), (5, .int v5)] [] σ) (v0 : Nat) (v1 : Int32) (v2 : Int32) (v3 : Int32) (v4 : Int32) (v5 : Int32) (k_v0 : kf_kd G v0 = 1) (σ : kf_St) (h : f_X0_nodeKnownBy_224 rec86 v0 v1 v2 v3 v4 v5 σ = some q) : kf_WA X G 7 (kf_Q X G (some (.int q.1)) q.2) 224 [(0, .ref (kf_ad G v0)), (1, .int v1), (2, .int v2), (3, .int v3), (4, .int v4), (5, .int v5)] [] σ := by
  unfold f_X0_nodeKnownBy_224 at h
  obtain ⟨v5_1, ev5_1, h⟩ := kf_lte h
  refine wa_iinc (lv' := [(5, .int v5_1), (0, .ref (kf_ad G v0)), (1, .int v1), (2, .int v2), (3, .int v3), (4, .int v4)]) v5_1 5 rfl (kf_inc ic_1 ev5_1) (by decide) rfl E d_X0_nodeKnownBy_224 ?_
  refine wa_goto E d_X0_nodeKnownBy_227 ?_
  refine wa_sub [1, 2, 3, 4, 5, 0] rfl ?_
  exact hrec86 v0 v1 v2 v3 v4 v5_1 k_v0 σ h
def f_X0_nodeKnownBy_86_s (rec86 : Nat → Int32 → Int32 → Int32 → Int32 → Int32 → kf_St → Option (Int32 × kf_St)) (v0 : Nat) (v1 : Int32) (v2 : Int32) (v3 : Int32) (v4 : Int32) (v5 : Int32) (σ : kf_St) : Option (Int32 × kf_St) :=
  if v4 ≤ v5 then
    some ((-2), σ)
  else
    if v3 = 0 then none else
    kf_lt (((v5 - 1) / v3)) fun v6_3 =>
    if kf_cok (4 * v6_3) 0 4 (kf_ln (kf_rf v0 4)) (kf_ln (kf_rf (kf_rf v0 3) 0)) = true then
    kf_lt (kf_ci σ (kf_rf v0 4) (kf_rf (kf_rf v0 3) 0) (Int32.toNatClampNeg (4 * v6_3)) (Int32.toNatClampNeg 0) (Int32.toNatClampNeg 4)) fun σ_5 =>
    if kf_ix v1 (kf_ln (kf_rf (kf_rf v0 1) 0)) = true then
    (f_X0_levelOf v0 v6_3 σ_5).bind fun q_7 =>
    kf_lt (kf_wi q_7.2 (kf_rf v0 3) 1 ((σ_5.1 (kf_rf (kf_rf (kf_rf v0 1) 0) (Int32.toNatClampNeg v1)) 1) + q_7.1)) fun σ_8 =>
    if v3 = 0 then none else
    (f_X4_liftBy (kf_rf v0 2) (kf_rf v0 3) ((v5 - 1) - (v5 - 1) / v3 * v3) (σ_8.1 (kf_rf v0 1) 3) σ_8).bind fun q_10 =>
    (f_X10_knownBy (kf_rf v0 0) (kf_rf (kf_rf v0 3) 0) q_10).bind fun q_11 =>
    if q_11.1 = v2 then
      some (v5, q_11.2)
    else
      if (nI (kf_ln (kf_rf v0 4))) ≤ (4 * v5) then
        f_X0_nodeKnownBy_224 rec86 v0 v1 v2 v3 v4 v5 q_11.2
      else
        if kf_cok 0 (4 * v5) 4 (kf_ln (kf_rf (kf_rf v0 3) 0)) (kf_ln (kf_rf v0 4)) = true then
        kf_lt (kf_ci q_11.2 (kf_rf (kf_rf v0 3) 0) (kf_rf v0 4) (Int32.toNatClampNeg 0) (Int32.toNatClampNeg (4 * v5)) (Int32.toNatClampNeg 4)) fun σ_15 =>
        f_X0_nodeKnownBy_224 rec86 v0 v1 v2 v3 v4 v5 σ_15
        else none
    else none
    else none
def f_X0_nodeKnownBy_86 : Nat → Nat → Int32 → Int32 → Int32 → Int32 → Int32 → kf_St → Option (Int32 × kf_St)
  | 0, _, _, _, _, _, _, _ => none
  | n + 1, v0, v1, v2, v3, v4, v5, σ => f_X0_nodeKnownBy_86_s (f_X0_nodeKnownBy_86 n) v0 v1 v2 v3 v4 v5 σ
set_option maxRecDepth 100000 in
set_option maxHeartbeats 4000000 in
theorem b_X0_nodeKnownBy_86_s {X : kf_X} {G : kf_G} (rec86 : Nat → Int32 → Int32 → Int32 → Int32 → Int32 → kf_St → Option (Int32 × kf_St)) {q : (Int32 × kf_St)} (E : kf_ok X G cX0_nodeKnownBy RX0 7 (some .int) (6)) (hty : kf_wt G) (hrec86 : ∀ (v0 : Nat) (v1 : Int32) (v2 : Int32) (v3 : Int32) (v4 : Int32) (v5 : Int32) (k_v0 : kf_kd G v0 = 1) (σ : kf_St), rec86 v0 v1 v2 v3 v4 v5 σ = some q → kf_WA X G 7 (kf_Q X G (some (.int q.1)) q.2) 86 [(0, .ref (kf_ad G v0)), (1, .int v1), (2, .int v2), (3, .int v3), (4, .int v4), (5, .int v5)] [] σ) (v0 : Nat) (v1 : Int32) (v2 : Int32) (v3 : Int32) (v4 : Int32) (v5 : Int32) (k_v0 : kf_kd G v0 = 1) (σ : kf_St) (h : f_X0_nodeKnownBy_86_s rec86 v0 v1 v2 v3 v4 v5 σ = some q) : kf_WA X G 7 (kf_Q X G (some (.int q.1)) q.2) 86 [(0, .ref (kf_ad G v0)), (1, .int v1), (2, .int v2), (3, .int v3), (4, .int v4), (5, .int v5)] [] σ := by
  unfold f_X0_nodeKnownBy_86_s at h
  refine wa_iload 5 rfl E d_X0_nodeKnownBy_86 ?_
  refine wa_iload 4 rfl E d_X0_nodeKnownBy_88 ?_
  refine wa_icmp_ge E d_X0_nodeKnownBy_90 (fun c_1 => ?_) (fun c_1 => ?_)
  · replace h := kf_ift c_1 h
    refine wa_bipush (-2) bp_m2 E d_X0_nodeKnownBy_230 ?_
    cases h
    exact wa_iret E d_X0_nodeKnownBy_232
  · replace h := kf_iff c_1 h
    refine wa_iload 5 rfl E d_X0_nodeKnownBy_93 ?_
    refine wa_iconst 1 ic_1 E d_X0_nodeKnownBy_95 ?_
    refine wa_isub E d_X0_nodeKnownBy_96 ?_
    refine wa_iload_n 3 rfl E d_X0_nodeKnownBy_97 ?_
    obtain ⟨g_2, h⟩ := kf_gn h
    refine wa_idiv g_2 E d_X0_nodeKnownBy_98 ?_
    obtain ⟨v6_3, ev6_3, h⟩ := kf_lte h
    refine wa_topi ev6_3 ?_
    refine wa_istore (lv' := [(6, .int v6_3), (0, .ref (kf_ad G v0)), (1, .int v1), (2, .int v2), (3, .int v3), (4, .int v4), (5, .int v5)]) (by decide) rfl E d_X0_nodeKnownBy_99 ?_
    refine wa_aload_n 1 rfl E d_X0_nodeKnownBy_101 ?_
    refine wa_getR fl_X0_30 k_v0 rfl E d_X0_nodeKnownBy_102 ?_
    refine wa_iconst 4 ic_4 E d_X0_nodeKnownBy_105 ?_
    refine wa_iload 0 rfl E d_X0_nodeKnownBy_106 ?_
    refine wa_imul E d_X0_nodeKnownBy_108 ?_
    refine wa_aload_n 1 rfl E d_X0_nodeKnownBy_109 ?_
    refine wa_getR fl_X0_26 k_v0 rfl E d_X0_nodeKnownBy_110 ?_
    refine wa_getR fl_X0_54 (kf_wtf hty 3 1 k_v0 (by decide) rfl) rfl E d_X0_nodeKnownBy_113 ?_
    refine wa_iconst 0 ic_0 E d_X0_nodeKnownBy_116 ?_
    refine wa_iconst 4 ic_4 E d_X0_nodeKnownBy_117 ?_
    obtain ⟨g_4, h⟩ := kf_gd h
    obtain ⟨σ_5, eσ_5, h⟩ := kf_lte h
    refine wa_copyi cw_X0_81 (kf_wtf hty 4 49 k_v0 (by decide) rfl) (kf_wtf hty 0 49 (kf_wtf hty 3 1 k_v0 (by decide) rfl) (by decide) rfl) g_4 (Nat.le_of_ble_eq_true rfl) (Nat.le_of_ble_eq_true rfl) E d_X0_nodeKnownBy_118 eσ_5 ?_
    refine wa_aload_n 1 rfl E d_X0_nodeKnownBy_121 ?_
    refine wa_getR fl_X0_26 k_v0 rfl E d_X0_nodeKnownBy_122 ?_
    refine wa_aload_n 1 rfl E d_X0_nodeKnownBy_125 ?_
    refine wa_getR fl_X0_15 k_v0 rfl E d_X0_nodeKnownBy_126 ?_
    refine wa_getR fl_X0_34 (kf_wtf hty 1 7 k_v0 (by decide) rfl) rfl E d_X0_nodeKnownBy_129 ?_
    refine wa_iload_n 2 rfl E d_X0_nodeKnownBy_132 ?_
    obtain ⟨g_6, h⟩ := kf_gd h
    refine wa_aald (kf_wtf hty 0 53 (kf_wtf hty 1 7 k_v0 (by decide) rfl) (by decide) rfl) g_6 E d_X0_nodeKnownBy_133 ?_
    refine wa_getI fl_X0_91 (kf_wta hty (kf_wtf hty 0 53 (kf_wtf hty 1 7 k_v0 (by decide) rfl) (by decide) rfl) g_6) rfl E d_X0_nodeKnownBy_134 ?_
    refine wa_aload_n 1 rfl E d_X0_nodeKnownBy_137 ?_
    refine wa_iload 0 rfl E d_X0_nodeKnownBy_138 ?_
    obtain ⟨q_7, hq_7, h⟩ := kf_bd h
    refine wa_callV (st2 := [.int q_7.1, .int (σ_5.1 (kf_rf (kf_rf (kf_rf v0 1) 0) (Int32.toNatClampNeg v1)) 1), .ref (kf_ad G (kf_rf v0 3))]) (c_X0_levelOf hty v0 v6_3 k_v0 σ_5 hq_7) mv_X0_levelOf ml_X0_94 k_v0 rfl (Nat.le_of_ble_eq_true rfl) rfl (Nat.le_of_ble_eq_true rfl) E d_X0_nodeKnownBy_140 rfl ?_
    refine wa_iadd E d_X0_nodeKnownBy_143 ?_
    obtain ⟨σ_8, eσ_8, h⟩ := kf_lte h
    refine wa_putI fl_X0_91 fp_1_1 (kf_wtf hty 3 1 k_v0 (by decide) rfl) rfl (by decide) rfl rfl E d_X0_nodeKnownBy_144 eσ_8 ?_
    refine wa_aload_n 1 rfl E d_X0_nodeKnownBy_147 ?_
    refine wa_getR fl_X0_19 k_v0 rfl E d_X0_nodeKnownBy_148 ?_
    refine wa_aload_n 1 rfl E d_X0_nodeKnownBy_151 ?_
    refine wa_getR fl_X0_26 k_v0 rfl E d_X0_nodeKnownBy_152 ?_
    refine wa_iload 6 rfl E d_X0_nodeKnownBy_155 ?_
    refine wa_iconst 1 ic_1 E d_X0_nodeKnownBy_157 ?_
    refine wa_isub E d_X0_nodeKnownBy_158 ?_
    refine wa_iload_n 4 rfl E d_X0_nodeKnownBy_159 ?_
    obtain ⟨g_9, h⟩ := kf_gn h
    refine wa_irem g_9 E d_X0_nodeKnownBy_160 ?_
    refine wa_aload_n 1 rfl E d_X0_nodeKnownBy_161 ?_
    refine wa_getR fl_X0_15 k_v0 rfl E d_X0_nodeKnownBy_162 ?_
    refine wa_getI fl_X0_44 (kf_wtf hty 1 7 k_v0 (by decide) rfl) rfl E d_X0_nodeKnownBy_165 ?_
    obtain ⟨q_10, hq_10, h⟩ := kf_bd h
    refine wa_callV (st2 := []) (c_X4_liftBy hty (kf_rf v0 2) (kf_rf v0 3) ((v5 - 1) - (v5 - 1) / v3 * v3) (σ_8.1 (kf_rf v0 1) 3) (kf_wtf hty 2 4 k_v0 (by decide) rfl) (kf_wtf hty 3 1 k_v0 (by decide) rfl) σ_8 hq_10) mv_X4_liftBy ml_X0_70 (kf_wtf hty 2 4 k_v0 (by decide) rfl) rfl (Nat.le_of_ble_eq_true rfl) rfl (Nat.le_of_ble_eq_true rfl) E d_X0_nodeKnownBy_168 rfl ?_
    refine wa_aload_n 1 rfl E d_X0_nodeKnownBy_171 ?_
    refine wa_getR fl_X0_9 k_v0 rfl E d_X0_nodeKnownBy_172 ?_
    refine wa_aload_n 1 rfl E d_X0_nodeKnownBy_175 ?_
    refine wa_getR fl_X0_26 k_v0 rfl E d_X0_nodeKnownBy_176 ?_
    refine wa_getR fl_X0_54 (kf_wtf hty 3 1 k_v0 (by decide) rfl) rfl E d_X0_nodeKnownBy_179 ?_
    obtain ⟨q_11, hq_11, h⟩ := kf_bd h
    refine wa_callV (st2 := [.int q_11.1]) (c_X10_knownBy hty (kf_rf v0 0) (kf_rf (kf_rf v0 3) 0) (kf_wtf hty 0 10 k_v0 (by decide) rfl) (kf_wtf hty 0 49 (kf_wtf hty 3 1 k_v0 (by decide) rfl) (by decide) rfl) q_10 hq_11) mv_X10_knownBy ml_X0_57 (kf_wtf hty 0 10 k_v0 (by decide) rfl) rfl (Nat.le_of_ble_eq_true rfl) rfl (Nat.le_of_ble_eq_true rfl) E d_X0_nodeKnownBy_182 rfl ?_
    refine wa_iload_n 3 rfl E d_X0_nodeKnownBy_185 ?_
    refine wa_icmp_ne E d_X0_nodeKnownBy_186 (fun c_12 => ?_) (fun c_12 => ?_)
    · replace h := kf_iff c_12 h
      refine wa_iconst 4 ic_4 E d_X0_nodeKnownBy_192 ?_
      refine wa_iload 6 rfl E d_X0_nodeKnownBy_193 ?_
      refine wa_imul E d_X0_nodeKnownBy_195 ?_
      refine wa_aload_n 1 rfl E d_X0_nodeKnownBy_196 ?_
      refine wa_getR fl_X0_30 k_v0 rfl E d_X0_nodeKnownBy_197 ?_
      refine wa_alen_i (kf_wtf hty 4 49 k_v0 (by decide) rfl) E d_X0_nodeKnownBy_200 ?_
      refine wa_icmp_ge E d_X0_nodeKnownBy_201 (fun c_13 => ?_) (fun c_13 => ?_)
      · replace h := kf_ift c_13 h
        refine wa_sub [1, 2, 3, 4, 5, 6] rfl ?_
        exact b_X0_nodeKnownBy_224 E hty hrec86 v0 v1 v2 v3 v4 v5 k_v0 q_11.2 h
      · replace h := kf_iff c_13 h
        refine wa_aload_n 1 rfl E d_X0_nodeKnownBy_204 ?_
        refine wa_getR fl_X0_26 k_v0 rfl E d_X0_nodeKnownBy_205 ?_
        refine wa_getR fl_X0_54 (kf_wtf hty 3 1 k_v0 (by decide) rfl) rfl E d_X0_nodeKnownBy_208 ?_
        refine wa_iconst 0 ic_0 E d_X0_nodeKnownBy_211 ?_
        refine wa_aload_n 1 rfl E d_X0_nodeKnownBy_212 ?_
        refine wa_getR fl_X0_30 k_v0 rfl E d_X0_nodeKnownBy_213 ?_
        refine wa_iconst 4 ic_4 E d_X0_nodeKnownBy_216 ?_
        refine wa_iload 6 rfl E d_X0_nodeKnownBy_217 ?_
        refine wa_imul E d_X0_nodeKnownBy_219 ?_
        refine wa_iconst 4 ic_4 E d_X0_nodeKnownBy_220 ?_
        obtain ⟨g_14, h⟩ := kf_gd h
        obtain ⟨σ_15, eσ_15, h⟩ := kf_lte h
        refine wa_copyi cw_X0_81 (kf_wtf hty 0 49 (kf_wtf hty 3 1 k_v0 (by decide) rfl) (by decide) rfl) (kf_wtf hty 4 49 k_v0 (by decide) rfl) g_14 (Nat.le_of_ble_eq_true rfl) (Nat.le_of_ble_eq_true rfl) E d_X0_nodeKnownBy_221 eσ_15 ?_
        refine wa_sub [1, 2, 3, 4, 5, 6] rfl ?_
        exact b_X0_nodeKnownBy_224 E hty hrec86 v0 v1 v2 v3 v4 v5 k_v0 σ_15 h
    · replace h := kf_ift c_12 h
      refine wa_iload 6 rfl E d_X0_nodeKnownBy_189 ?_
      cases h
      exact wa_iret E d_X0_nodeKnownBy_191
theorem b_X0_nodeKnownBy_86 {X : kf_X} {G : kf_G} {q : (Int32 × kf_St)} (E : kf_ok X G cX0_nodeKnownBy RX0 7 (some .int) (6)) (hty : kf_wt G) : ∀ (N : Nat) (v0 : Nat) (v1 : Int32) (v2 : Int32) (v3 : Int32) (v4 : Int32) (v5 : Int32) (k_v0 : kf_kd G v0 = 1) (σ : kf_St) (_ : f_X0_nodeKnownBy_86 N v0 v1 v2 v3 v4 v5 σ = some q), kf_WA X G 7 (kf_Q X G (some (.int q.1)) q.2) 86 [(0, .ref (kf_ad G v0)), (1, .int v1), (2, .int v2), (3, .int v3), (4, .int v4), (5, .int v5)] [] σ
  | 0, _, _, _, _, _, _, _, _, h => by cases h
  | N + 1, v0, v1, v2, v3, v4, v5, k_v0, σ, h => b_X0_nodeKnownBy_86_s _ E hty (b_X0_nodeKnownBy_86 E hty N) v0 v1 v2 v3 v4 v5 k_v0 σ h
def f_X0_nodeKnownBy (v0 : Nat) (v1 : Int32) (v2 : Int32) (σ : kf_St) : Option (Int32 × kf_St) :=
  kf_lt ((σ.1 (kf_rf v0 0) 1)) fun v3_1 =>
  if kf_ix v1 (kf_ln (kf_rf (kf_rf v0 1) 0)) = true then
  (f_X1_become (kf_rf v0 3) (kf_rf (kf_rf (kf_rf v0 1) 0) (Int32.toNatClampNeg v1)) σ).bind fun q_3 =>
  if v3_1 < 1 then
    f_X0_nodeKnownBy_47 v3_1 q_3
  else
    (f_X10_knownBy (kf_rf v0 0) (kf_rf (kf_rf v0 3) 0) q_3).bind fun q_5 =>
    if q_5.1 = v2 then
      f_X0_nodeKnownBy_47 v3_1 q_5.2
    else
      if kf_cok 0 0 4 (kf_ln (kf_rf (kf_rf v0 3) 0)) (kf_ln (kf_rf v0 4)) = true then
      kf_lt (kf_ci q_5.2 (kf_rf (kf_rf v0 3) 0) (kf_rf v0 4) (Int32.toNatClampNeg 0) (Int32.toNatClampNeg 0) (Int32.toNatClampNeg 4)) fun σ_8 =>
      (f_X0_nodesAbove v0 5 σ_8).bind fun q_9 =>
      f_X0_nodeKnownBy_86 kf_F v0 v1 v2 v3_1 q_9.1 1 q_9.2
      else none
  else none
set_option maxRecDepth 100000 in
set_option maxHeartbeats 4000000 in
theorem c_X0_nodeKnownBy {G : kf_G} (hty : kf_wt G) (v0 : Nat) (v1 : Int32) (v2 : Int32) (k_v0 : kf_kd G v0 = 1) (σ : kf_St) {q : (Int32 × kf_St)} (h : f_X0_nodeKnownBy v0 v1 v2 σ = some q) : kf_Ct (6) yX0_nodeKnownBy cX0_nodeKnownBy 7 (some .int) G [.ref (kf_ad G v0), .int v1, .int v2] σ (some (.int q.1)) q.2 := by
  refine kf_Ct.of hty.1 (lv := [(0, .ref (kf_ad G v0)), (1, .int v1), (2, .int v2)]) (by decide +kernel) rfl (Nat.le_of_ble_eq_true rfl) (fun X E => ?_)
  unfold f_X0_nodeKnownBy at h
  refine wa_aload_n 0 rfl E d_X0_nodeKnownBy_0 ?_
  refine wa_getR fl_X0_9 k_v0 rfl E d_X0_nodeKnownBy_1 ?_
  refine wa_getI fl_X0_78 (kf_wtf hty 0 10 k_v0 (by decide) rfl) rfl E d_X0_nodeKnownBy_4 ?_
  obtain ⟨v3_1, ev3_1, h⟩ := kf_lte h
  refine wa_topi ev3_1 ?_
  refine wa_istore_n (lv' := [(3, .int v3_1), (0, .ref (kf_ad G v0)), (1, .int v1), (2, .int v2)]) rfl (by decide) rfl E d_X0_nodeKnownBy_7 ?_
  refine wa_aload_n 1 rfl E d_X0_nodeKnownBy_8 ?_
  refine wa_getR fl_X0_26 k_v0 rfl E d_X0_nodeKnownBy_9 ?_
  refine wa_aload_n 1 rfl E d_X0_nodeKnownBy_12 ?_
  refine wa_getR fl_X0_15 k_v0 rfl E d_X0_nodeKnownBy_13 ?_
  refine wa_getR fl_X0_34 (kf_wtf hty 1 7 k_v0 (by decide) rfl) rfl E d_X0_nodeKnownBy_16 ?_
  refine wa_iload_n 2 rfl E d_X0_nodeKnownBy_19 ?_
  obtain ⟨g_2, h⟩ := kf_gd h
  refine wa_aald (kf_wtf hty 0 53 (kf_wtf hty 1 7 k_v0 (by decide) rfl) (by decide) rfl) g_2 E d_X0_nodeKnownBy_20 ?_
  obtain ⟨q_3, hq_3, h⟩ := kf_bd h
  refine wa_callV (st2 := []) (c_X1_become hty (kf_rf v0 3) (kf_rf (kf_rf (kf_rf v0 1) 0) (Int32.toNatClampNeg v1)) (kf_wtf hty 3 1 k_v0 (by decide) rfl) (kf_wta hty (kf_wtf hty 0 53 (kf_wtf hty 1 7 k_v0 (by decide) rfl) (by decide) rfl) g_2) σ hq_3) mv_X1_become ml_X0_40 (kf_wtf hty 3 1 k_v0 (by decide) rfl) rfl (Nat.le_of_ble_eq_true rfl) rfl (Nat.le_of_ble_eq_true rfl) E d_X0_nodeKnownBy_21 rfl ?_
  refine wa_iload_n 0 rfl E d_X0_nodeKnownBy_24 ?_
  refine wa_iconst 1 ic_1 E d_X0_nodeKnownBy_25 ?_
  refine wa_icmp_lt E d_X0_nodeKnownBy_26 (fun c_4 => ?_) (fun c_4 => ?_)
  · replace h := kf_ift c_4 h
    refine wa_sub [0] rfl ?_
    exact b_X0_nodeKnownBy_47 E hty v3_1 q_3 h
  · replace h := kf_iff c_4 h
    refine wa_aload_n 1 rfl E d_X0_nodeKnownBy_29 ?_
    refine wa_getR fl_X0_9 k_v0 rfl E d_X0_nodeKnownBy_30 ?_
    refine wa_aload_n 1 rfl E d_X0_nodeKnownBy_33 ?_
    refine wa_getR fl_X0_26 k_v0 rfl E d_X0_nodeKnownBy_34 ?_
    refine wa_getR fl_X0_54 (kf_wtf hty 3 1 k_v0 (by decide) rfl) rfl E d_X0_nodeKnownBy_37 ?_
    obtain ⟨q_5, hq_5, h⟩ := kf_bd h
    refine wa_callV (st2 := [.int q_5.1]) (c_X10_knownBy hty (kf_rf v0 0) (kf_rf (kf_rf v0 3) 0) (kf_wtf hty 0 10 k_v0 (by decide) rfl) (kf_wtf hty 0 49 (kf_wtf hty 3 1 k_v0 (by decide) rfl) (by decide) rfl) q_3 hq_5) mv_X10_knownBy ml_X0_57 (kf_wtf hty 0 10 k_v0 (by decide) rfl) rfl (Nat.le_of_ble_eq_true rfl) rfl (Nat.le_of_ble_eq_true rfl) E d_X0_nodeKnownBy_40 rfl ?_
    refine wa_iload_n 3 rfl E d_X0_nodeKnownBy_43 ?_
    refine wa_icmp_ne E d_X0_nodeKnownBy_44 (fun c_6 => ?_) (fun c_6 => ?_)
    · replace h := kf_iff c_6 h
      refine wa_aload_n 1 rfl E d_X0_nodeKnownBy_59 ?_
      refine wa_getR fl_X0_26 k_v0 rfl E d_X0_nodeKnownBy_60 ?_
      refine wa_getR fl_X0_54 (kf_wtf hty 3 1 k_v0 (by decide) rfl) rfl E d_X0_nodeKnownBy_63 ?_
      refine wa_iconst 0 ic_0 E d_X0_nodeKnownBy_66 ?_
      refine wa_aload_n 1 rfl E d_X0_nodeKnownBy_67 ?_
      refine wa_getR fl_X0_30 k_v0 rfl E d_X0_nodeKnownBy_68 ?_
      refine wa_iconst 0 ic_0 E d_X0_nodeKnownBy_71 ?_
      refine wa_iconst 4 ic_4 E d_X0_nodeKnownBy_72 ?_
      obtain ⟨g_7, h⟩ := kf_gd h
      obtain ⟨σ_8, eσ_8, h⟩ := kf_lte h
      refine wa_copyi cw_X0_81 (kf_wtf hty 0 49 (kf_wtf hty 3 1 k_v0 (by decide) rfl) (by decide) rfl) (kf_wtf hty 4 49 k_v0 (by decide) rfl) g_7 (Nat.le_of_ble_eq_true rfl) (Nat.le_of_ble_eq_true rfl) E d_X0_nodeKnownBy_73 eσ_8 ?_
      refine wa_aload_n 1 rfl E d_X0_nodeKnownBy_76 ?_
      refine wa_iconst 5 ic_5 E d_X0_nodeKnownBy_77 ?_
      obtain ⟨q_9, hq_9, h⟩ := kf_bd h
      refine wa_callV (st2 := [.int q_9.1]) (c_X0_nodesAbove hty v0 5 k_v0 σ_8 hq_9) mv_X0_nodesAbove ml_X0_87 k_v0 rfl (Nat.le_of_ble_eq_true rfl) rfl (Nat.le_of_ble_eq_true rfl) E d_X0_nodeKnownBy_78 rfl ?_
      refine wa_istore (lv' := [(4, .int q_9.1), (3, .int v3_1), (0, .ref (kf_ad G v0)), (1, .int v1), (2, .int v2)]) (by decide) rfl E d_X0_nodeKnownBy_81 ?_
      refine wa_iconst 1 ic_1 E d_X0_nodeKnownBy_83 ?_
      refine wa_istore (lv' := [(5, .int 1), (4, .int q_9.1), (3, .int v3_1), (0, .ref (kf_ad G v0)), (1, .int v1), (2, .int v2)]) (by decide) rfl E d_X0_nodeKnownBy_84 ?_
      refine wa_sub [3, 4, 5, 2, 1, 0] rfl ?_
      exact b_X0_nodeKnownBy_86 E hty kf_F v0 v1 v2 v3_1 q_9.1 1 k_v0 q_9.2 h
    · replace h := kf_ift c_6 h
      refine wa_sub [0] rfl ?_
      exact b_X0_nodeKnownBy_47 E hty v3_1 q_5.2 h
/-! X0_callerOnPath -/
theorem d_X0_callerOnPath_0 : kf_dq cX0_callerOnPath 0 1 1 (.aload_n 0) := ⟨by decide +kernel, rfl⟩
theorem d_X0_callerOnPath_1 : kf_dq cX0_callerOnPath 1 2 1 (.iload_n 1) := ⟨by decide +kernel, rfl⟩
theorem d_X0_callerOnPath_2 : kf_dq cX0_callerOnPath 2 5 3 (.invokevirtual 94) := ⟨by decide +kernel, rfl⟩
theorem d_X0_callerOnPath_5 : kf_dq cX0_callerOnPath 5 6 1 (.iconst 1) := ⟨by decide +kernel, rfl⟩
theorem d_X0_callerOnPath_6 : kf_dq cX0_callerOnPath 6 7 1 (.isub) := ⟨by decide +kernel, rfl⟩
theorem d_X0_callerOnPath_7 : kf_dq cX0_callerOnPath 7 8 1 (.iload_n 2) := ⟨by decide +kernel, rfl⟩
theorem d_X0_callerOnPath_8 : kf_dq cX0_callerOnPath 8 9 1 (.isub) := ⟨by decide +kernel, rfl⟩
theorem d_X0_callerOnPath_9 : kf_dq cX0_callerOnPath 9 10 1 (.istore_n 3) := ⟨by decide +kernel, rfl⟩
theorem d_X0_callerOnPath_10 : kf_dq cX0_callerOnPath 10 11 1 (.iload_n 3) := ⟨by decide +kernel, rfl⟩
theorem d_X0_callerOnPath_11 : kf_dj cX0_callerOnPath 11 14 25 (.ifCond .lt) := ⟨14, by decide +kernel, rfl, by decide⟩
theorem d_X0_callerOnPath_14 : kf_dq cX0_callerOnPath 14 15 1 (.aload_n 0) := ⟨by decide +kernel, rfl⟩
theorem d_X0_callerOnPath_15 : kf_dq cX0_callerOnPath 15 18 3 (.getfield 9) := ⟨by decide +kernel, rfl⟩
theorem d_X0_callerOnPath_18 : kf_dq cX0_callerOnPath 18 21 3 (.getfield 78) := ⟨by decide +kernel, rfl⟩
theorem d_X0_callerOnPath_21 : kf_dq cX0_callerOnPath 21 22 1 (.iconst 1) := ⟨by decide +kernel, rfl⟩
theorem d_X0_callerOnPath_22 : kf_dj cX0_callerOnPath 22 25 27 (.if_icmp .ge) := ⟨5, by decide +kernel, rfl, by decide⟩
theorem d_X0_callerOnPath_25 : kf_dq cX0_callerOnPath 25 26 1 (.iconst (-1)) := ⟨by decide +kernel, rfl⟩
theorem d_X0_callerOnPath_26 : kf_dq cX0_callerOnPath 26 27 1 (.ireturn) := ⟨by decide +kernel, rfl⟩
theorem d_X0_callerOnPath_27 : kf_dq cX0_callerOnPath 27 28 1 (.iload_n 1) := ⟨by decide +kernel, rfl⟩
theorem d_X0_callerOnPath_28 : kf_dq cX0_callerOnPath 28 30 2 (.istore 4) := ⟨by decide +kernel, rfl⟩
theorem d_X0_callerOnPath_30 : kf_dq cX0_callerOnPath 30 31 1 (.iconst 0) := ⟨by decide +kernel, rfl⟩
theorem d_X0_callerOnPath_31 : kf_dq cX0_callerOnPath 31 33 2 (.istore 5) := ⟨by decide +kernel, rfl⟩
theorem d_X0_callerOnPath_33 : kf_dq cX0_callerOnPath 33 35 2 (.iload 5) := ⟨by decide +kernel, rfl⟩
theorem d_X0_callerOnPath_35 : kf_dq cX0_callerOnPath 35 36 1 (.iload_n 3) := ⟨by decide +kernel, rfl⟩
theorem d_X0_callerOnPath_36 : kf_dj cX0_callerOnPath 36 39 59 (.if_icmp .ge) := ⟨23, by decide +kernel, rfl, by decide⟩
theorem d_X0_callerOnPath_39 : kf_dq cX0_callerOnPath 39 41 2 (.iload 4) := ⟨by decide +kernel, rfl⟩
theorem d_X0_callerOnPath_41 : kf_dq cX0_callerOnPath 41 42 1 (.iconst 1) := ⟨by decide +kernel, rfl⟩
theorem d_X0_callerOnPath_42 : kf_dq cX0_callerOnPath 42 43 1 (.isub) := ⟨by decide +kernel, rfl⟩
theorem d_X0_callerOnPath_43 : kf_dq cX0_callerOnPath 43 44 1 (.aload_n 0) := ⟨by decide +kernel, rfl⟩
theorem d_X0_callerOnPath_44 : kf_dq cX0_callerOnPath 44 47 3 (.getfield 9) := ⟨by decide +kernel, rfl⟩
theorem d_X0_callerOnPath_47 : kf_dq cX0_callerOnPath 47 50 3 (.getfield 78) := ⟨by decide +kernel, rfl⟩
theorem d_X0_callerOnPath_50 : kf_dq cX0_callerOnPath 50 51 1 (.idiv) := ⟨by decide +kernel, rfl⟩
theorem d_X0_callerOnPath_51 : kf_dq cX0_callerOnPath 51 53 2 (.istore 4) := ⟨by decide +kernel, rfl⟩
theorem d_X0_callerOnPath_53 : kf_dq cX0_callerOnPath 53 56 3 (.iinc 5 1) := ⟨by decide +kernel, rfl⟩
theorem d_X0_callerOnPath_56 : kf_dj cX0_callerOnPath 56 59 33 .goto := ⟨(-23), by decide +kernel, rfl, by decide⟩
theorem d_X0_callerOnPath_59 : kf_dq cX0_callerOnPath 59 61 2 (.iload 4) := ⟨by decide +kernel, rfl⟩
theorem d_X0_callerOnPath_61 : kf_dj cX0_callerOnPath 61 64 79 (.ifCond .le) := ⟨18, by decide +kernel, rfl, by decide⟩
theorem d_X0_callerOnPath_64 : kf_dq cX0_callerOnPath 64 66 2 (.iload 4) := ⟨by decide +kernel, rfl⟩
theorem d_X0_callerOnPath_66 : kf_dq cX0_callerOnPath 66 67 1 (.iconst 1) := ⟨by decide +kernel, rfl⟩
theorem d_X0_callerOnPath_67 : kf_dq cX0_callerOnPath 67 68 1 (.isub) := ⟨by decide +kernel, rfl⟩
theorem d_X0_callerOnPath_68 : kf_dq cX0_callerOnPath 68 69 1 (.aload_n 0) := ⟨by decide +kernel, rfl⟩
theorem d_X0_callerOnPath_69 : kf_dq cX0_callerOnPath 69 72 3 (.getfield 9) := ⟨by decide +kernel, rfl⟩
theorem d_X0_callerOnPath_72 : kf_dq cX0_callerOnPath 72 75 3 (.getfield 78) := ⟨by decide +kernel, rfl⟩
theorem d_X0_callerOnPath_75 : kf_dq cX0_callerOnPath 75 76 1 (.irem) := ⟨by decide +kernel, rfl⟩
theorem d_X0_callerOnPath_76 : kf_dj cX0_callerOnPath 76 79 80 .goto := ⟨4, by decide +kernel, rfl, by decide⟩
theorem d_X0_callerOnPath_79 : kf_dq cX0_callerOnPath 79 80 1 (.iconst (-1)) := ⟨by decide +kernel, rfl⟩
theorem d_X0_callerOnPath_80 : kf_dq cX0_callerOnPath 80 81 1 (.ireturn) := ⟨by decide +kernel, rfl⟩
def f_X0_callerOnPath_33_s (rec33 : Nat → Int32 → Int32 → Int32 → kf_St → Option (Int32 × kf_St)) (v0 : Nat) (v3 : Int32) (v4 : Int32) (v5 : Int32) (σ : kf_St) : Option (Int32 × kf_St) :=
  if v3 ≤ v5 then
    if v4 ≤ 0 then
      some ((-1), σ)
    else
      if (σ.1 (kf_rf v0 0) 1) = 0 then none else
      some (((v4 - 1) - (v4 - 1) / (σ.1 (kf_rf v0 0) 1) * (σ.1 (kf_rf v0 0) 1)), σ)
  else
    if (σ.1 (kf_rf v0 0) 1) = 0 then none else
    kf_lt (((v4 - 1) / (σ.1 (kf_rf v0 0) 1))) fun v4_5 =>
    kf_lt (v5 + 1) fun v5_6 =>
    rec33 v0 v3 v4_5 v5_6 σ
def f_X0_callerOnPath_33 : Nat → Nat → Int32 → Int32 → Int32 → kf_St → Option (Int32 × kf_St)
  | 0, _, _, _, _, _ => none
  | n + 1, v0, v3, v4, v5, σ => f_X0_callerOnPath_33_s (f_X0_callerOnPath_33 n) v0 v3 v4 v5 σ
set_option maxRecDepth 100000 in
set_option maxHeartbeats 4000000 in
theorem b_X0_callerOnPath_33_s {X : kf_X} {G : kf_G} (rec33 : Nat → Int32 → Int32 → Int32 → kf_St → Option (Int32 × kf_St)) {q : (Int32 × kf_St)} (E : kf_ok X G cX0_callerOnPath RX0 6 (some .int) (2)) (hty : kf_wt G) (hrec33 : ∀ (v0 : Nat) (v3 : Int32) (v4 : Int32) (v5 : Int32) (k_v0 : kf_kd G v0 = 1) (σ : kf_St), rec33 v0 v3 v4 v5 σ = some q → kf_WA X G 6 (kf_Q X G (some (.int q.1)) q.2) 33 [(0, .ref (kf_ad G v0)), (3, .int v3), (4, .int v4), (5, .int v5)] [] σ) (v0 : Nat) (v3 : Int32) (v4 : Int32) (v5 : Int32) (k_v0 : kf_kd G v0 = 1) (σ : kf_St) (h : f_X0_callerOnPath_33_s rec33 v0 v3 v4 v5 σ = some q) : kf_WA X G 6 (kf_Q X G (some (.int q.1)) q.2) 33 [(0, .ref (kf_ad G v0)), (3, .int v3), (4, .int v4), (5, .int v5)] [] σ := by
  unfold f_X0_callerOnPath_33_s at h
  refine wa_iload 3 rfl E d_X0_callerOnPath_33 ?_
  refine wa_iload_n 1 rfl E d_X0_callerOnPath_35 ?_
  refine wa_icmp_ge E d_X0_callerOnPath_36 (fun c_1 => ?_) (fun c_1 => ?_)
  · replace h := kf_ift c_1 h
    refine wa_iload 2 rfl E d_X0_callerOnPath_59 ?_
    refine wa_if_le E d_X0_callerOnPath_61 (fun c_2 => ?_) (fun c_2 => ?_)
    · replace h := kf_ift c_2 h
      refine wa_iconst (-1) ic_m1 E d_X0_callerOnPath_79 ?_
      cases h
      exact wa_iret E d_X0_callerOnPath_80
    · replace h := kf_iff c_2 h
      refine wa_iload 2 rfl E d_X0_callerOnPath_64 ?_
      refine wa_iconst 1 ic_1 E d_X0_callerOnPath_66 ?_
      refine wa_isub E d_X0_callerOnPath_67 ?_
      refine wa_aload_n 0 rfl E d_X0_callerOnPath_68 ?_
      refine wa_getR fl_X0_9 k_v0 rfl E d_X0_callerOnPath_69 ?_
      refine wa_getI fl_X0_78 (kf_wtf hty 0 10 k_v0 (by decide) rfl) rfl E d_X0_callerOnPath_72 ?_
      obtain ⟨g_3, h⟩ := kf_gn h
      refine wa_irem g_3 E d_X0_callerOnPath_75 ?_
      refine wa_goto E d_X0_callerOnPath_76 ?_
      cases h
      exact wa_iret E d_X0_callerOnPath_80
  · replace h := kf_iff c_1 h
    refine wa_iload 2 rfl E d_X0_callerOnPath_39 ?_
    refine wa_iconst 1 ic_1 E d_X0_callerOnPath_41 ?_
    refine wa_isub E d_X0_callerOnPath_42 ?_
    refine wa_aload_n 0 rfl E d_X0_callerOnPath_43 ?_
    refine wa_getR fl_X0_9 k_v0 rfl E d_X0_callerOnPath_44 ?_
    refine wa_getI fl_X0_78 (kf_wtf hty 0 10 k_v0 (by decide) rfl) rfl E d_X0_callerOnPath_47 ?_
    obtain ⟨g_4, h⟩ := kf_gn h
    refine wa_idiv g_4 E d_X0_callerOnPath_50 ?_
    obtain ⟨v4_5, ev4_5, h⟩ := kf_lte h
    refine wa_topi ev4_5 ?_
    refine wa_istore (lv' := [(4, .int v4_5), (0, .ref (kf_ad G v0)), (3, .int v3), (5, .int v5)]) (by decide) rfl E d_X0_callerOnPath_51 ?_
    obtain ⟨v5_6, ev5_6, h⟩ := kf_lte h
    refine wa_iinc (lv' := [(5, .int v5_6), (4, .int v4_5), (0, .ref (kf_ad G v0)), (3, .int v3)]) v5_6 3 rfl (kf_inc ic_1 ev5_6) (by decide) rfl E d_X0_callerOnPath_53 ?_
    refine wa_goto E d_X0_callerOnPath_56 ?_
    refine wa_sub [2, 3, 1, 0] rfl ?_
    exact hrec33 v0 v3 v4_5 v5_6 k_v0 σ h
theorem b_X0_callerOnPath_33 {X : kf_X} {G : kf_G} {q : (Int32 × kf_St)} (E : kf_ok X G cX0_callerOnPath RX0 6 (some .int) (2)) (hty : kf_wt G) : ∀ (N : Nat) (v0 : Nat) (v3 : Int32) (v4 : Int32) (v5 : Int32) (k_v0 : kf_kd G v0 = 1) (σ : kf_St) (_ : f_X0_callerOnPath_33 N v0 v3 v4 v5 σ = some q), kf_WA X G 6 (kf_Q X G (some (.int q.1)) q.2) 33 [(0, .ref (kf_ad G v0)), (3, .int v3), (4, .int v4), (5, .int v5)] [] σ
  | 0, _, _, _, _, _, _, h => by cases h
  | N + 1, v0, v3, v4, v5, k_v0, σ, h => b_X0_callerOnPath_33_s _ E hty (b_X0_callerOnPath_33 E hty N) v0 v3 v4 v5 k_v0 σ h
def f_X0_callerOnPath (v0 : Nat) (v1 : Int32) (v2 : Int32) (σ : kf_St) : Option (Int32 × kf_St) :=
  (f_X0_levelOf v0 v1 σ).bind fun q_1 =>
  kf_lt (((q_1.1 - 1) - v2)) fun v3_2 =>
  if v3_2 < 0 then
    some ((-1), q_1.2)
  else
    if 1 ≤ (q_1.2.1 (kf_rf v0 0) 1) then
      f_X0_callerOnPath_33 kf_F v0 v3_2 v1 0 q_1.2
    else
      some ((-1), q_1.2)
set_option maxRecDepth 100000 in
set_option maxHeartbeats 4000000 in
theorem c_X0_callerOnPath {G : kf_G} (hty : kf_wt G) (v0 : Nat) (v1 : Int32) (v2 : Int32) (k_v0 : kf_kd G v0 = 1) (σ : kf_St) {q : (Int32 × kf_St)} (h : f_X0_callerOnPath v0 v1 v2 σ = some q) : kf_Ct (2) yX0_callerOnPath cX0_callerOnPath 6 (some .int) G [.ref (kf_ad G v0), .int v1, .int v2] σ (some (.int q.1)) q.2 := by
  refine kf_Ct.of hty.1 (lv := [(0, .ref (kf_ad G v0)), (1, .int v1), (2, .int v2)]) (by decide +kernel) rfl (Nat.le_of_ble_eq_true rfl) (fun X E => ?_)
  unfold f_X0_callerOnPath at h
  refine wa_aload_n 0 rfl E d_X0_callerOnPath_0 ?_
  refine wa_iload_n 1 rfl E d_X0_callerOnPath_1 ?_
  obtain ⟨q_1, hq_1, h⟩ := kf_bd h
  refine wa_callV (st2 := [.int q_1.1]) (c_X0_levelOf hty v0 v1 k_v0 σ hq_1) mv_X0_levelOf ml_X0_94 k_v0 rfl (Nat.le_of_ble_eq_true rfl) rfl (Nat.le_of_ble_eq_true rfl) E d_X0_callerOnPath_2 rfl ?_
  refine wa_iconst 1 ic_1 E d_X0_callerOnPath_5 ?_
  refine wa_isub E d_X0_callerOnPath_6 ?_
  refine wa_iload_n 2 rfl E d_X0_callerOnPath_7 ?_
  refine wa_isub E d_X0_callerOnPath_8 ?_
  obtain ⟨v3_2, ev3_2, h⟩ := kf_lte h
  refine wa_topi ev3_2 ?_
  refine wa_istore_n (lv' := [(3, .int v3_2), (0, .ref (kf_ad G v0)), (1, .int v1), (2, .int v2)]) rfl (by decide) rfl E d_X0_callerOnPath_9 ?_
  refine wa_iload_n 0 rfl E d_X0_callerOnPath_10 ?_
  refine wa_if_lt E d_X0_callerOnPath_11 (fun c_3 => ?_) (fun c_3 => ?_)
  · replace h := kf_ift c_3 h
    refine wa_iconst (-1) ic_m1 E d_X0_callerOnPath_25 ?_
    cases h
    exact wa_iret E d_X0_callerOnPath_26
  · replace h := kf_iff c_3 h
    refine wa_aload_n 1 rfl E d_X0_callerOnPath_14 ?_
    refine wa_getR fl_X0_9 k_v0 rfl E d_X0_callerOnPath_15 ?_
    refine wa_getI fl_X0_78 (kf_wtf hty 0 10 k_v0 (by decide) rfl) rfl E d_X0_callerOnPath_18 ?_
    refine wa_iconst 1 ic_1 E d_X0_callerOnPath_21 ?_
    refine wa_icmp_ge E d_X0_callerOnPath_22 (fun c_4 => ?_) (fun c_4 => ?_)
    · replace h := kf_ift c_4 h
      refine wa_iload_n 2 rfl E d_X0_callerOnPath_27 ?_
      refine wa_istore (lv' := [(4, .int v1), (3, .int v3_2), (0, .ref (kf_ad G v0)), (1, .int v1), (2, .int v2)]) (by decide) rfl E d_X0_callerOnPath_28 ?_
      refine wa_iconst 0 ic_0 E d_X0_callerOnPath_30 ?_
      refine wa_istore (lv' := [(5, .int 0), (4, .int v1), (3, .int v3_2), (0, .ref (kf_ad G v0)), (1, .int v1), (2, .int v2)]) (by decide) rfl E d_X0_callerOnPath_31 ?_
      refine wa_sub [3, 2, 1, 0] rfl ?_
      exact b_X0_callerOnPath_33 E hty kf_F v0 v3_2 v1 0 k_v0 q_1.2 h
    · replace h := kf_iff c_4 h
      refine wa_iconst (-1) ic_m1 E d_X0_callerOnPath_25 ?_
      cases h
      exact wa_iret E d_X0_callerOnPath_26
/-! X1_begin -/
theorem d_X1_begin_0 : kf_dq cX1_begin 0 1 1 (.iconst 0) := ⟨by decide +kernel, rfl⟩
theorem d_X1_begin_1 : kf_dq cX1_begin 1 2 1 (.istore_n 3) := ⟨by decide +kernel, rfl⟩
theorem d_X1_begin_2 : kf_dq cX1_begin 2 3 1 (.iload_n 3) := ⟨by decide +kernel, rfl⟩
theorem d_X1_begin_3 : kf_dq cX1_begin 3 4 1 (.iconst 4) := ⟨by decide +kernel, rfl⟩
theorem d_X1_begin_4 : kf_dj cX1_begin 4 7 46 (.if_icmp .ge) := ⟨42, by decide +kernel, rfl, by decide⟩
theorem d_X1_begin_7 : kf_dq cX1_begin 7 8 1 (.iconst 4) := ⟨by decide +kernel, rfl⟩
theorem d_X1_begin_8 : kf_dq cX1_begin 8 9 1 (.iload_n 2) := ⟨by decide +kernel, rfl⟩
theorem d_X1_begin_9 : kf_dq cX1_begin 9 10 1 (.imul) := ⟨by decide +kernel, rfl⟩
theorem d_X1_begin_10 : kf_dq cX1_begin 10 11 1 (.iload_n 3) := ⟨by decide +kernel, rfl⟩
theorem d_X1_begin_11 : kf_dq cX1_begin 11 12 1 (.iadd) := ⟨by decide +kernel, rfl⟩
theorem d_X1_begin_12 : kf_dq cX1_begin 12 14 2 (.istore 4) := ⟨by decide +kernel, rfl⟩
theorem d_X1_begin_14 : kf_dq cX1_begin 14 15 1 (.aload_n 0) := ⟨by decide +kernel, rfl⟩
theorem d_X1_begin_15 : kf_dq cX1_begin 15 18 3 (.getfield 9) := ⟨by decide +kernel, rfl⟩
theorem d_X1_begin_18 : kf_dq cX1_begin 18 19 1 (.iload_n 3) := ⟨by decide +kernel, rfl⟩
theorem d_X1_begin_19 : kf_dq cX1_begin 19 21 2 (.iload 4) := ⟨by decide +kernel, rfl⟩
theorem d_X1_begin_21 : kf_dj cX1_begin 21 24 38 (.ifCond .lt) := ⟨17, by decide +kernel, rfl, by decide⟩
theorem d_X1_begin_24 : kf_dq cX1_begin 24 26 2 (.iload 4) := ⟨by decide +kernel, rfl⟩
theorem d_X1_begin_26 : kf_dq cX1_begin 26 27 1 (.aload_n 1) := ⟨by decide +kernel, rfl⟩
theorem d_X1_begin_27 : kf_dq cX1_begin 27 28 1 (.arraylength) := ⟨by decide +kernel, rfl⟩
theorem d_X1_begin_28 : kf_dj cX1_begin 28 31 38 (.if_icmp .ge) := ⟨10, by decide +kernel, rfl, by decide⟩
theorem d_X1_begin_31 : kf_dq cX1_begin 31 32 1 (.aload_n 1) := ⟨by decide +kernel, rfl⟩
theorem d_X1_begin_32 : kf_dq cX1_begin 32 34 2 (.iload 4) := ⟨by decide +kernel, rfl⟩
theorem d_X1_begin_34 : kf_dq cX1_begin 34 35 1 (.iaload) := ⟨by decide +kernel, rfl⟩
theorem d_X1_begin_35 : kf_dj cX1_begin 35 38 39 .goto := ⟨4, by decide +kernel, rfl, by decide⟩
theorem d_X1_begin_38 : kf_dq cX1_begin 38 39 1 (.iconst 0) := ⟨by decide +kernel, rfl⟩
theorem d_X1_begin_39 : kf_dq cX1_begin 39 40 1 (.iastore) := ⟨by decide +kernel, rfl⟩
theorem d_X1_begin_40 : kf_dq cX1_begin 40 43 3 (.iinc 3 1) := ⟨by decide +kernel, rfl⟩
theorem d_X1_begin_43 : kf_dj cX1_begin 43 46 2 .goto := ⟨(-41), by decide +kernel, rfl, by decide⟩
theorem d_X1_begin_46 : kf_dq cX1_begin 46 47 1 (.aload_n 0) := ⟨by decide +kernel, rfl⟩
theorem d_X1_begin_47 : kf_dq cX1_begin 47 48 1 (.iconst 0) := ⟨by decide +kernel, rfl⟩
theorem d_X1_begin_48 : kf_dq cX1_begin 48 51 3 (.putfield 15) := ⟨by decide +kernel, rfl⟩
theorem d_X1_begin_51 : kf_dq cX1_begin 51 52 1 (.aload_n 0) := ⟨by decide +kernel, rfl⟩
theorem d_X1_begin_52 : kf_dq cX1_begin 52 53 1 (.iconst 0) := ⟨by decide +kernel, rfl⟩
theorem d_X1_begin_53 : kf_dq cX1_begin 53 56 3 (.putfield 19) := ⟨by decide +kernel, rfl⟩
theorem d_X1_begin_56 : kf_dq cX1_begin 56 57 1 (.aload_n 0) := ⟨by decide +kernel, rfl⟩
theorem d_X1_begin_57 : kf_dq cX1_begin 57 58 1 (.iconst 0) := ⟨by decide +kernel, rfl⟩
theorem d_X1_begin_58 : kf_dq cX1_begin 58 61 3 (.putfield 22) := ⟨by decide +kernel, rfl⟩
theorem d_X1_begin_61 : kf_dq cX1_begin 61 62 1 (.aload_n 0) := ⟨by decide +kernel, rfl⟩
theorem d_X1_begin_62 : kf_dq cX1_begin 62 63 1 (.iconst 0) := ⟨by decide +kernel, rfl⟩
theorem d_X1_begin_63 : kf_dq cX1_begin 63 66 3 (.putfield 25) := ⟨by decide +kernel, rfl⟩
theorem d_X1_begin_66 : kf_dq cX1_begin 66 67 1 (.aload_n 0) := ⟨by decide +kernel, rfl⟩
theorem d_X1_begin_67 : kf_dq cX1_begin 67 68 1 (.iconst 0) := ⟨by decide +kernel, rfl⟩
theorem d_X1_begin_68 : kf_dq cX1_begin 68 71 3 (.putfield 28) := ⟨by decide +kernel, rfl⟩
theorem d_X1_begin_71 : kf_dq cX1_begin 71 72 1 (.return_) := ⟨by decide +kernel, rfl⟩
def f_X1_begin_39 (rec2 : Nat → Nat → Int32 → Int32 → kf_St → Option kf_St) (v0 : Nat) (v1 : Nat) (v2 : Int32) (v3 : Int32) (s0 : Nat) (s1 : Int32) (s2 : Int32) (σ : kf_St) : Option kf_St :=
  if kf_ix s1 (kf_ln s0) = true then
  kf_lt (kf_wi σ s0 (Int32.toNatClampNeg s1) s2) fun σ_2 =>
  kf_lt (v3 + 1) fun v3_3 =>
  rec2 v0 v1 v2 v3_3 σ_2
  else none
set_option maxRecDepth 100000 in
set_option maxHeartbeats 4000000 in
theorem b_X1_begin_39 {X : kf_X} {G : kf_G} {rec2 : Nat → Nat → Int32 → Int32 → kf_St → Option kf_St} {q : kf_St} (E : kf_ok X G cX1_begin RX1 5 none (1)) (hty : kf_wt G) (hrec2 : ∀ (v0 : Nat) (v1 : Nat) (v2 : Int32) (v3 : Int32) (k_v0 : kf_kd G v0 = 2) (k_v1 : kf_kd G v1 = 50) (σ : kf_St), rec2 v0 v1 v2 v3 σ = some q → kf_WA X G 5 (kf_Q X G none q) 2 [(0, .ref (kf_ad G v0)), (1, .ref (kf_ad G v1)), (2, .int v2), (3, .int v3)] [] σ) (v0 : Nat) (v1 : Nat) (v2 : Int32) (v3 : Int32) (s0 : Nat) (s1 : Int32) (s2 : Int32) (k_v0 : kf_kd G v0 = 2) (k_v1 : kf_kd G v1 = 50) (k_s0 : kf_kd G s0 = 50) (σ : kf_St) (h : f_X1_begin_39 rec2 v0 v1 v2 v3 s0 s1 s2 σ = some q) : kf_WA X G 5 (kf_Q X G none q) 39 [(0, .ref (kf_ad G v0)), (1, .ref (kf_ad G v1)), (2, .int v2), (3, .int v3)] [.int s2, .int s1, .ref (kf_ad G s0)] σ := by
  unfold f_X1_begin_39 at h
  obtain ⟨g_1, h⟩ := kf_gd h
  obtain ⟨σ_2, eσ_2, h⟩ := kf_lte h
  refine wa_iast k_s0 g_1 E d_X1_begin_39 eσ_2 ?_
  obtain ⟨v3_3, ev3_3, h⟩ := kf_lte h
  refine wa_iinc (lv' := [(3, .int v3_3), (0, .ref (kf_ad G v0)), (1, .ref (kf_ad G v1)), (2, .int v2)]) v3_3 3 rfl (kf_inc ic_1 ev3_3) (by decide) rfl E d_X1_begin_40 ?_
  refine wa_goto E d_X1_begin_43 ?_
  refine wa_sub [1, 2, 3, 0] rfl ?_
  exact hrec2 v0 v1 v2 v3_3 k_v0 k_v1 σ_2 h
def f_X1_begin_38 (rec2 : Nat → Nat → Int32 → Int32 → kf_St → Option kf_St) (v0 : Nat) (v1 : Nat) (v2 : Int32) (v3 : Int32) (s0 : Nat) (s1 : Int32) (σ : kf_St) : Option kf_St :=
  f_X1_begin_39 rec2 v0 v1 v2 v3 s0 s1 0 σ
set_option maxRecDepth 100000 in
set_option maxHeartbeats 4000000 in
theorem b_X1_begin_38 {X : kf_X} {G : kf_G} {rec2 : Nat → Nat → Int32 → Int32 → kf_St → Option kf_St} {q : kf_St} (E : kf_ok X G cX1_begin RX1 5 none (1)) (hty : kf_wt G) (hrec2 : ∀ (v0 : Nat) (v1 : Nat) (v2 : Int32) (v3 : Int32) (k_v0 : kf_kd G v0 = 2) (k_v1 : kf_kd G v1 = 50) (σ : kf_St), rec2 v0 v1 v2 v3 σ = some q → kf_WA X G 5 (kf_Q X G none q) 2 [(0, .ref (kf_ad G v0)), (1, .ref (kf_ad G v1)), (2, .int v2), (3, .int v3)] [] σ) (v0 : Nat) (v1 : Nat) (v2 : Int32) (v3 : Int32) (s0 : Nat) (s1 : Int32) (k_v0 : kf_kd G v0 = 2) (k_v1 : kf_kd G v1 = 50) (k_s0 : kf_kd G s0 = 50) (σ : kf_St) (h : f_X1_begin_38 rec2 v0 v1 v2 v3 s0 s1 σ = some q) : kf_WA X G 5 (kf_Q X G none q) 38 [(0, .ref (kf_ad G v0)), (1, .ref (kf_ad G v1)), (2, .int v2), (3, .int v3)] [.int s1, .ref (kf_ad G s0)] σ := by
  unfold f_X1_begin_38 at h
  refine wa_iconst 0 ic_0 E d_X1_begin_38 ?_
  exact b_X1_begin_39 E hty hrec2 v0 v1 v2 v3 s0 s1 0 k_v0 k_v1 k_s0 σ h
def f_X1_begin_2_s (rec2 : Nat → Nat → Int32 → Int32 → kf_St → Option kf_St) (v0 : Nat) (v1 : Nat) (v2 : Int32) (v3 : Int32) (σ : kf_St) : Option kf_St :=
  if 4 ≤ v3 then
    kf_lt (kf_wi σ v0 1 0) fun σ_2 =>
    kf_lt (kf_wi σ_2 v0 2 0) fun σ_3 =>
    kf_lt (kf_wi σ_3 v0 3 0) fun σ_4 =>
    kf_lt (kf_wi σ_4 v0 4 0) fun σ_5 =>
    kf_lt (kf_wi σ_5 v0 5 0) fun σ_6 =>
    some σ_6
  else
    kf_lt (((4 * v2) + v3)) fun v4_7 =>
    if v4_7 < 0 then
      f_X1_begin_38 rec2 v0 v1 v2 v3 (kf_rf v0 0) v3 σ
    else
      if (nI (kf_ln v1)) ≤ v4_7 then
        f_X1_begin_38 rec2 v0 v1 v2 v3 (kf_rf v0 0) v3 σ
      else
        if kf_ix v4_7 (kf_ln v1) = true then
        f_X1_begin_39 rec2 v0 v1 v2 v3 (kf_rf v0 0) v3 (σ.1 v1 (Int32.toNatClampNeg v4_7)) σ
        else none
def f_X1_begin_2 : Nat → Nat → Nat → Int32 → Int32 → kf_St → Option kf_St
  | 0, _, _, _, _, _ => none
  | n + 1, v0, v1, v2, v3, σ => f_X1_begin_2_s (f_X1_begin_2 n) v0 v1 v2 v3 σ
set_option maxRecDepth 100000 in
set_option maxHeartbeats 4000000 in
theorem b_X1_begin_2_s {X : kf_X} {G : kf_G} (rec2 : Nat → Nat → Int32 → Int32 → kf_St → Option kf_St) {q : kf_St} (E : kf_ok X G cX1_begin RX1 5 none (1)) (hty : kf_wt G) (hrec2 : ∀ (v0 : Nat) (v1 : Nat) (v2 : Int32) (v3 : Int32) (k_v0 : kf_kd G v0 = 2) (k_v1 : kf_kd G v1 = 50) (σ : kf_St), rec2 v0 v1 v2 v3 σ = some q → kf_WA X G 5 (kf_Q X G none q) 2 [(0, .ref (kf_ad G v0)), (1, .ref (kf_ad G v1)), (2, .int v2), (3, .int v3)] [] σ) (v0 : Nat) (v1 : Nat) (v2 : Int32) (v3 : Int32) (k_v0 : kf_kd G v0 = 2) (k_v1 : kf_kd G v1 = 50) (σ : kf_St) (h : f_X1_begin_2_s rec2 v0 v1 v2 v3 σ = some q) : kf_WA X G 5 (kf_Q X G none q) 2 [(0, .ref (kf_ad G v0)), (1, .ref (kf_ad G v1)), (2, .int v2), (3, .int v3)] [] σ := by
  unfold f_X1_begin_2_s at h
  refine wa_iload_n 3 rfl E d_X1_begin_2 ?_
  refine wa_iconst 4 ic_4 E d_X1_begin_3 ?_
  refine wa_icmp_ge E d_X1_begin_4 (fun c_1 => ?_) (fun c_1 => ?_)
  · replace h := kf_ift c_1 h
    refine wa_aload_n 0 rfl E d_X1_begin_46 ?_
    refine wa_iconst 0 ic_0 E d_X1_begin_47 ?_
    obtain ⟨σ_2, eσ_2, h⟩ := kf_lte h
    refine wa_putI fl_X1_15 fp_1_1 k_v0 rfl (by decide) rfl rfl E d_X1_begin_48 eσ_2 ?_
    refine wa_aload_n 0 rfl E d_X1_begin_51 ?_
    refine wa_iconst 0 ic_0 E d_X1_begin_52 ?_
    obtain ⟨σ_3, eσ_3, h⟩ := kf_lte h
    refine wa_putI fl_X1_19 fp_1_2 k_v0 rfl (by decide) rfl rfl E d_X1_begin_53 eσ_3 ?_
    refine wa_aload_n 0 rfl E d_X1_begin_56 ?_
    refine wa_iconst 0 ic_0 E d_X1_begin_57 ?_
    obtain ⟨σ_4, eσ_4, h⟩ := kf_lte h
    refine wa_putI fl_X1_22 fp_1_3 k_v0 rfl (by decide) rfl rfl E d_X1_begin_58 eσ_4 ?_
    refine wa_aload_n 0 rfl E d_X1_begin_61 ?_
    refine wa_iconst 0 ic_0 E d_X1_begin_62 ?_
    obtain ⟨σ_5, eσ_5, h⟩ := kf_lte h
    refine wa_putI fl_X1_25 fp_1_4 k_v0 rfl (by decide) rfl rfl E d_X1_begin_63 eσ_5 ?_
    refine wa_aload_n 0 rfl E d_X1_begin_66 ?_
    refine wa_iconst 0 ic_0 E d_X1_begin_67 ?_
    obtain ⟨σ_6, eσ_6, h⟩ := kf_lte h
    refine wa_putI fl_X1_28 fp_1_5 k_v0 rfl (by decide) kf_z0 kf_f0 E d_X1_begin_68 eσ_6 ?_
    cases h
    exact wa_vret E d_X1_begin_71
  · replace h := kf_iff c_1 h
    refine wa_iconst 4 ic_4 E d_X1_begin_7 ?_
    refine wa_iload_n 2 rfl E d_X1_begin_8 ?_
    refine wa_imul E d_X1_begin_9 ?_
    refine wa_iload_n 3 rfl E d_X1_begin_10 ?_
    refine wa_iadd E d_X1_begin_11 ?_
    obtain ⟨v4_7, ev4_7, h⟩ := kf_lte h
    refine wa_topi ev4_7 ?_
    refine wa_istore (lv' := [(4, .int v4_7), (0, .ref (kf_ad G v0)), (1, .ref (kf_ad G v1)), (2, .int v2), (3, .int v3)]) (by decide) rfl E d_X1_begin_12 ?_
    refine wa_aload_n 1 rfl E d_X1_begin_14 ?_
    refine wa_getR fl_X1_9 k_v0 rfl E d_X1_begin_15 ?_
    refine wa_iload_n 4 rfl E d_X1_begin_18 ?_
    refine wa_iload 0 rfl E d_X1_begin_19 ?_
    refine wa_if_lt E d_X1_begin_21 (fun c_8 => ?_) (fun c_8 => ?_)
    · replace h := kf_ift c_8 h
      refine wa_sub [1, 2, 3, 4] rfl ?_
      exact b_X1_begin_38 E hty hrec2 v0 v1 v2 v3 (kf_rf v0 0) v3 k_v0 k_v1 (kf_wtf hty 0 49 k_v0 (by decide) rfl) σ h
    · replace h := kf_iff c_8 h
      refine wa_iload 0 rfl E d_X1_begin_24 ?_
      refine wa_aload_n 2 rfl E d_X1_begin_26 ?_
      refine wa_alen_i k_v1 E d_X1_begin_27 ?_
      refine wa_icmp_ge E d_X1_begin_28 (fun c_9 => ?_) (fun c_9 => ?_)
      · replace h := kf_ift c_9 h
        refine wa_sub [1, 2, 3, 4] rfl ?_
        exact b_X1_begin_38 E hty hrec2 v0 v1 v2 v3 (kf_rf v0 0) v3 k_v0 k_v1 (kf_wtf hty 0 49 k_v0 (by decide) rfl) σ h
      · replace h := kf_iff c_9 h
        refine wa_aload_n 2 rfl E d_X1_begin_31 ?_
        refine wa_iload 0 rfl E d_X1_begin_32 ?_
        obtain ⟨g_10, h⟩ := kf_gd h
        refine wa_iald k_v1 g_10 E d_X1_begin_34 ?_
        refine wa_goto E d_X1_begin_35 ?_
        refine wa_sub [1, 2, 3, 4] rfl ?_
        exact b_X1_begin_39 E hty hrec2 v0 v1 v2 v3 (kf_rf v0 0) v3 (σ.1 v1 (Int32.toNatClampNeg v4_7)) k_v0 k_v1 (kf_wtf hty 0 49 k_v0 (by decide) rfl) σ h
theorem b_X1_begin_2 {X : kf_X} {G : kf_G} {q : kf_St} (E : kf_ok X G cX1_begin RX1 5 none (1)) (hty : kf_wt G) : ∀ (N : Nat) (v0 : Nat) (v1 : Nat) (v2 : Int32) (v3 : Int32) (k_v0 : kf_kd G v0 = 2) (k_v1 : kf_kd G v1 = 50) (σ : kf_St) (_ : f_X1_begin_2 N v0 v1 v2 v3 σ = some q), kf_WA X G 5 (kf_Q X G none q) 2 [(0, .ref (kf_ad G v0)), (1, .ref (kf_ad G v1)), (2, .int v2), (3, .int v3)] [] σ
  | 0, _, _, _, _, _, _, _, h => by cases h
  | N + 1, v0, v1, v2, v3, k_v0, k_v1, σ, h => b_X1_begin_2_s _ E hty (b_X1_begin_2 E hty N) v0 v1 v2 v3 k_v0 k_v1 σ h
def f_X1_begin (v0 : Nat) (v1 : Nat) (v2 : Int32) (σ : kf_St) : Option kf_St :=
  f_X1_begin_2 kf_F v0 v1 v2 0 σ
set_option maxRecDepth 100000 in
set_option maxHeartbeats 4000000 in
theorem c_X1_begin {G : kf_G} (hty : kf_wt G) (v0 : Nat) (v1 : Nat) (v2 : Int32) (k_v0 : kf_kd G v0 = 2) (k_v1 : kf_kd G v1 = 50) (σ : kf_St) {q : kf_St} (h : f_X1_begin v0 v1 v2 σ = some q) : kf_Ct (1) yX1_begin cX1_begin 5 none G [.ref (kf_ad G v0), .ref (kf_ad G v1), .int v2] σ none q := by
  refine kf_Ct.of hty.1 (lv := [(0, .ref (kf_ad G v0)), (1, .ref (kf_ad G v1)), (2, .int v2)]) (by decide +kernel) rfl (Nat.le_of_ble_eq_true rfl) (fun X E => ?_)
  unfold f_X1_begin at h
  refine wa_iconst 0 ic_0 E d_X1_begin_0 ?_
  refine wa_istore_n (lv' := [(3, .int 0), (0, .ref (kf_ad G v0)), (1, .ref (kf_ad G v1)), (2, .int v2)]) rfl (by decide) rfl E d_X1_begin_1 ?_
  refine wa_sub [1, 2, 3, 0] rfl ?_
  exact b_X1_begin_2 E hty kf_F v0 v1 v2 0 k_v0 k_v1 σ h
/-! X1_save -/
theorem d_X1_save_0 : kf_dq cX1_save 0 1 1 (.iload_n 2) := ⟨by decide +kernel, rfl⟩
theorem d_X1_save_1 : kf_dj cX1_save 1 4 13 (.ifCond .lt) := ⟨12, by decide +kernel, rfl, by decide⟩
theorem d_X1_save_4 : kf_dq cX1_save 4 5 1 (.iload_n 2) := ⟨by decide +kernel, rfl⟩
theorem d_X1_save_5 : kf_dq cX1_save 5 6 1 (.aload_n 1) := ⟨by decide +kernel, rfl⟩
theorem d_X1_save_6 : kf_dq cX1_save 6 7 1 (.arraylength) := ⟨by decide +kernel, rfl⟩
theorem d_X1_save_7 : kf_dq cX1_save 7 9 2 (.bipush 9) := ⟨by decide +kernel, rfl⟩
theorem d_X1_save_9 : kf_dq cX1_save 9 10 1 (.isub) := ⟨by decide +kernel, rfl⟩
theorem d_X1_save_10 : kf_dj cX1_save 10 13 14 (.if_icmp .le) := ⟨4, by decide +kernel, rfl, by decide⟩
theorem d_X1_save_13 : kf_dq cX1_save 13 14 1 (.return_) := ⟨by decide +kernel, rfl⟩
theorem d_X1_save_14 : kf_dq cX1_save 14 15 1 (.aload_n 0) := ⟨by decide +kernel, rfl⟩
theorem d_X1_save_15 : kf_dq cX1_save 15 18 3 (.getfield 9) := ⟨by decide +kernel, rfl⟩
theorem d_X1_save_18 : kf_dq cX1_save 18 19 1 (.iconst 0) := ⟨by decide +kernel, rfl⟩
theorem d_X1_save_19 : kf_dq cX1_save 19 20 1 (.aload_n 1) := ⟨by decide +kernel, rfl⟩
theorem d_X1_save_20 : kf_dq cX1_save 20 21 1 (.iload_n 2) := ⟨by decide +kernel, rfl⟩
theorem d_X1_save_21 : kf_dq cX1_save 21 22 1 (.iconst 4) := ⟨by decide +kernel, rfl⟩
theorem d_X1_save_22 : kf_dq cX1_save 22 25 3 (.invokestatic 32) := ⟨by decide +kernel, rfl⟩
theorem d_X1_save_25 : kf_dq cX1_save 25 26 1 (.aload_n 1) := ⟨by decide +kernel, rfl⟩
theorem d_X1_save_26 : kf_dq cX1_save 26 27 1 (.iload_n 2) := ⟨by decide +kernel, rfl⟩
theorem d_X1_save_27 : kf_dq cX1_save 27 28 1 (.iconst 4) := ⟨by decide +kernel, rfl⟩
theorem d_X1_save_28 : kf_dq cX1_save 28 29 1 (.iadd) := ⟨by decide +kernel, rfl⟩
theorem d_X1_save_29 : kf_dq cX1_save 29 30 1 (.aload_n 0) := ⟨by decide +kernel, rfl⟩
theorem d_X1_save_30 : kf_dq cX1_save 30 33 3 (.getfield 15) := ⟨by decide +kernel, rfl⟩
theorem d_X1_save_33 : kf_dq cX1_save 33 34 1 (.iastore) := ⟨by decide +kernel, rfl⟩
theorem d_X1_save_34 : kf_dq cX1_save 34 35 1 (.aload_n 1) := ⟨by decide +kernel, rfl⟩
theorem d_X1_save_35 : kf_dq cX1_save 35 36 1 (.iload_n 2) := ⟨by decide +kernel, rfl⟩
theorem d_X1_save_36 : kf_dq cX1_save 36 37 1 (.iconst 4) := ⟨by decide +kernel, rfl⟩
theorem d_X1_save_37 : kf_dq cX1_save 37 38 1 (.iadd) := ⟨by decide +kernel, rfl⟩
theorem d_X1_save_38 : kf_dq cX1_save 38 39 1 (.iconst 1) := ⟨by decide +kernel, rfl⟩
theorem d_X1_save_39 : kf_dq cX1_save 39 40 1 (.iadd) := ⟨by decide +kernel, rfl⟩
theorem d_X1_save_40 : kf_dq cX1_save 40 41 1 (.aload_n 0) := ⟨by decide +kernel, rfl⟩
theorem d_X1_save_41 : kf_dq cX1_save 41 44 3 (.getfield 19) := ⟨by decide +kernel, rfl⟩
theorem d_X1_save_44 : kf_dq cX1_save 44 45 1 (.iastore) := ⟨by decide +kernel, rfl⟩
theorem d_X1_save_45 : kf_dq cX1_save 45 46 1 (.aload_n 1) := ⟨by decide +kernel, rfl⟩
theorem d_X1_save_46 : kf_dq cX1_save 46 47 1 (.iload_n 2) := ⟨by decide +kernel, rfl⟩
theorem d_X1_save_47 : kf_dq cX1_save 47 48 1 (.iconst 4) := ⟨by decide +kernel, rfl⟩
theorem d_X1_save_48 : kf_dq cX1_save 48 49 1 (.iadd) := ⟨by decide +kernel, rfl⟩
theorem d_X1_save_49 : kf_dq cX1_save 49 50 1 (.iconst 2) := ⟨by decide +kernel, rfl⟩
theorem d_X1_save_50 : kf_dq cX1_save 50 51 1 (.iadd) := ⟨by decide +kernel, rfl⟩
theorem d_X1_save_51 : kf_dq cX1_save 51 52 1 (.aload_n 0) := ⟨by decide +kernel, rfl⟩
theorem d_X1_save_52 : kf_dq cX1_save 52 55 3 (.getfield 22) := ⟨by decide +kernel, rfl⟩
theorem d_X1_save_55 : kf_dq cX1_save 55 56 1 (.iastore) := ⟨by decide +kernel, rfl⟩
theorem d_X1_save_56 : kf_dq cX1_save 56 57 1 (.aload_n 1) := ⟨by decide +kernel, rfl⟩
theorem d_X1_save_57 : kf_dq cX1_save 57 58 1 (.iload_n 2) := ⟨by decide +kernel, rfl⟩
theorem d_X1_save_58 : kf_dq cX1_save 58 59 1 (.iconst 4) := ⟨by decide +kernel, rfl⟩
theorem d_X1_save_59 : kf_dq cX1_save 59 60 1 (.iadd) := ⟨by decide +kernel, rfl⟩
theorem d_X1_save_60 : kf_dq cX1_save 60 61 1 (.iconst 3) := ⟨by decide +kernel, rfl⟩
theorem d_X1_save_61 : kf_dq cX1_save 61 62 1 (.iadd) := ⟨by decide +kernel, rfl⟩
theorem d_X1_save_62 : kf_dq cX1_save 62 63 1 (.aload_n 0) := ⟨by decide +kernel, rfl⟩
theorem d_X1_save_63 : kf_dq cX1_save 63 66 3 (.getfield 25) := ⟨by decide +kernel, rfl⟩
theorem d_X1_save_66 : kf_dq cX1_save 66 67 1 (.iastore) := ⟨by decide +kernel, rfl⟩
theorem d_X1_save_67 : kf_dq cX1_save 67 68 1 (.aload_n 1) := ⟨by decide +kernel, rfl⟩
theorem d_X1_save_68 : kf_dq cX1_save 68 69 1 (.iload_n 2) := ⟨by decide +kernel, rfl⟩
theorem d_X1_save_69 : kf_dq cX1_save 69 70 1 (.iconst 4) := ⟨by decide +kernel, rfl⟩
theorem d_X1_save_70 : kf_dq cX1_save 70 71 1 (.iadd) := ⟨by decide +kernel, rfl⟩
theorem d_X1_save_71 : kf_dq cX1_save 71 72 1 (.iconst 4) := ⟨by decide +kernel, rfl⟩
theorem d_X1_save_72 : kf_dq cX1_save 72 73 1 (.iadd) := ⟨by decide +kernel, rfl⟩
theorem d_X1_save_73 : kf_dq cX1_save 73 74 1 (.aload_n 0) := ⟨by decide +kernel, rfl⟩
theorem d_X1_save_74 : kf_dq cX1_save 74 77 3 (.getfield 28) := ⟨by decide +kernel, rfl⟩
theorem d_X1_save_77 : kf_dj cX1_save 77 80 84 (.ifCond .eq) := ⟨7, by decide +kernel, rfl, by decide⟩
theorem d_X1_save_80 : kf_dq cX1_save 80 81 1 (.iconst 1) := ⟨by decide +kernel, rfl⟩
theorem d_X1_save_81 : kf_dj cX1_save 81 84 85 .goto := ⟨4, by decide +kernel, rfl, by decide⟩
theorem d_X1_save_84 : kf_dq cX1_save 84 85 1 (.iconst 0) := ⟨by decide +kernel, rfl⟩
theorem d_X1_save_85 : kf_dq cX1_save 85 86 1 (.iastore) := ⟨by decide +kernel, rfl⟩
theorem d_X1_save_86 : kf_dq cX1_save 86 87 1 (.return_) := ⟨by decide +kernel, rfl⟩
def f_X1_save_85 (s0 : Nat) (s1 : Int32) (s2 : Int32) (σ : kf_St) : Option kf_St :=
  if kf_ix s1 (kf_ln s0) = true then
  kf_lt (kf_wi σ s0 (Int32.toNatClampNeg s1) s2) fun σ_2 =>
  some σ_2
  else none
set_option maxRecDepth 100000 in
set_option maxHeartbeats 4000000 in
theorem b_X1_save_85 {X : kf_X} {G : kf_G} {q : kf_St} (E : kf_ok X G cX1_save RX1 3 none (1)) (hty : kf_wt G) (s0 : Nat) (s1 : Int32) (s2 : Int32) (k_s0 : kf_kd G s0 = 50) (σ : kf_St) (h : f_X1_save_85 s0 s1 s2 σ = some q) : kf_WA X G 3 (kf_Q X G none q) 85 [] [.int s2, .int s1, .ref (kf_ad G s0)] σ := by
  unfold f_X1_save_85 at h
  obtain ⟨g_1, h⟩ := kf_gd h
  obtain ⟨σ_2, eσ_2, h⟩ := kf_lte h
  refine wa_iast k_s0 g_1 E d_X1_save_85 eσ_2 ?_
  cases h
  exact wa_vret E d_X1_save_86
def f_X1_save (v0 : Nat) (v1 : Nat) (v2 : Int32) (σ : kf_St) : Option kf_St :=
  if v2 < 0 then
    some σ
  else
    if v2 ≤ ((nI (kf_ln v1)) - 9) then
      if kf_cok 0 v2 4 (kf_ln (kf_rf v0 0)) (kf_ln v1) = true then
      kf_lt (kf_ci σ (kf_rf v0 0) v1 (Int32.toNatClampNeg 0) (Int32.toNatClampNeg v2) (Int32.toNatClampNeg 4)) fun σ_4 =>
      if kf_ix (v2 + 4) (kf_ln v1) = true then
      kf_lt (kf_wi σ_4 v1 (Int32.toNatClampNeg (v2 + 4)) (σ_4.1 v0 1)) fun σ_6 =>
      if kf_ix ((v2 + 4) + 1) (kf_ln v1) = true then
      kf_lt (kf_wi σ_6 v1 (Int32.toNatClampNeg ((v2 + 4) + 1)) (σ_6.1 v0 2)) fun σ_8 =>
      if kf_ix ((v2 + 4) + 2) (kf_ln v1) = true then
      kf_lt (kf_wi σ_8 v1 (Int32.toNatClampNeg ((v2 + 4) + 2)) (σ_8.1 v0 3)) fun σ_10 =>
      if kf_ix ((v2 + 4) + 3) (kf_ln v1) = true then
      kf_lt (kf_wi σ_10 v1 (Int32.toNatClampNeg ((v2 + 4) + 3)) (σ_10.1 v0 4)) fun σ_12 =>
      if (σ_12.1 v0 5) = 0 then
        f_X1_save_85 v1 ((v2 + 4) + 4) 0 σ_12
      else
        f_X1_save_85 v1 ((v2 + 4) + 4) 1 σ_12
      else none
      else none
      else none
      else none
      else none
    else
      some σ
set_option maxRecDepth 100000 in
set_option maxHeartbeats 4000000 in
theorem c_X1_save {G : kf_G} (hty : kf_wt G) (v0 : Nat) (v1 : Nat) (v2 : Int32) (k_v0 : kf_kd G v0 = 2) (k_v1 : kf_kd G v1 = 50) (σ : kf_St) {q : kf_St} (h : f_X1_save v0 v1 v2 σ = some q) : kf_Ct (1) yX1_save cX1_save 3 none G [.ref (kf_ad G v0), .ref (kf_ad G v1), .int v2] σ none q := by
  refine kf_Ct.of hty.1 (lv := [(0, .ref (kf_ad G v0)), (1, .ref (kf_ad G v1)), (2, .int v2)]) (by decide +kernel) rfl (Nat.le_of_ble_eq_true rfl) (fun X E => ?_)
  unfold f_X1_save at h
  refine wa_iload_n 2 rfl E d_X1_save_0 ?_
  refine wa_if_lt E d_X1_save_1 (fun c_1 => ?_) (fun c_1 => ?_)
  · replace h := kf_ift c_1 h
    cases h
    exact wa_vret E d_X1_save_13
  · replace h := kf_iff c_1 h
    refine wa_iload_n 2 rfl E d_X1_save_4 ?_
    refine wa_aload_n 1 rfl E d_X1_save_5 ?_
    refine wa_alen_i k_v1 E d_X1_save_6 ?_
    refine wa_bipush 9 bp_9 E d_X1_save_7 ?_
    refine wa_isub E d_X1_save_9 ?_
    refine wa_icmp_le E d_X1_save_10 (fun c_2 => ?_) (fun c_2 => ?_)
    · replace h := kf_ift c_2 h
      refine wa_aload_n 0 rfl E d_X1_save_14 ?_
      refine wa_getR fl_X1_9 k_v0 rfl E d_X1_save_15 ?_
      refine wa_iconst 0 ic_0 E d_X1_save_18 ?_
      refine wa_aload_n 1 rfl E d_X1_save_19 ?_
      refine wa_iload_n 2 rfl E d_X1_save_20 ?_
      refine wa_iconst 4 ic_4 E d_X1_save_21 ?_
      obtain ⟨g_3, h⟩ := kf_gd h
      obtain ⟨σ_4, eσ_4, h⟩ := kf_lte h
      refine wa_copyi cw_X1_32 (kf_wtf hty 0 49 k_v0 (by decide) rfl) k_v1 g_3 (Nat.le_of_ble_eq_true rfl) (Nat.le_of_ble_eq_true rfl) E d_X1_save_22 eσ_4 ?_
      refine wa_aload_n 1 rfl E d_X1_save_25 ?_
      refine wa_iload_n 2 rfl E d_X1_save_26 ?_
      refine wa_iconst 4 ic_4 E d_X1_save_27 ?_
      refine wa_iadd E d_X1_save_28 ?_
      refine wa_aload_n 0 rfl E d_X1_save_29 ?_
      refine wa_getI fl_X1_15 k_v0 rfl E d_X1_save_30 ?_
      obtain ⟨g_5, h⟩ := kf_gd h
      obtain ⟨σ_6, eσ_6, h⟩ := kf_lte h
      refine wa_iast k_v1 g_5 E d_X1_save_33 eσ_6 ?_
      refine wa_aload_n 1 rfl E d_X1_save_34 ?_
      refine wa_iload_n 2 rfl E d_X1_save_35 ?_
      refine wa_iconst 4 ic_4 E d_X1_save_36 ?_
      refine wa_iadd E d_X1_save_37 ?_
      refine wa_iconst 1 ic_1 E d_X1_save_38 ?_
      refine wa_iadd E d_X1_save_39 ?_
      refine wa_aload_n 0 rfl E d_X1_save_40 ?_
      refine wa_getI fl_X1_19 k_v0 rfl E d_X1_save_41 ?_
      obtain ⟨g_7, h⟩ := kf_gd h
      obtain ⟨σ_8, eσ_8, h⟩ := kf_lte h
      refine wa_iast k_v1 g_7 E d_X1_save_44 eσ_8 ?_
      refine wa_aload_n 1 rfl E d_X1_save_45 ?_
      refine wa_iload_n 2 rfl E d_X1_save_46 ?_
      refine wa_iconst 4 ic_4 E d_X1_save_47 ?_
      refine wa_iadd E d_X1_save_48 ?_
      refine wa_iconst 2 ic_2 E d_X1_save_49 ?_
      refine wa_iadd E d_X1_save_50 ?_
      refine wa_aload_n 0 rfl E d_X1_save_51 ?_
      refine wa_getI fl_X1_22 k_v0 rfl E d_X1_save_52 ?_
      obtain ⟨g_9, h⟩ := kf_gd h
      obtain ⟨σ_10, eσ_10, h⟩ := kf_lte h
      refine wa_iast k_v1 g_9 E d_X1_save_55 eσ_10 ?_
      refine wa_aload_n 1 rfl E d_X1_save_56 ?_
      refine wa_iload_n 2 rfl E d_X1_save_57 ?_
      refine wa_iconst 4 ic_4 E d_X1_save_58 ?_
      refine wa_iadd E d_X1_save_59 ?_
      refine wa_iconst 3 ic_3 E d_X1_save_60 ?_
      refine wa_iadd E d_X1_save_61 ?_
      refine wa_aload_n 0 rfl E d_X1_save_62 ?_
      refine wa_getI fl_X1_25 k_v0 rfl E d_X1_save_63 ?_
      obtain ⟨g_11, h⟩ := kf_gd h
      obtain ⟨σ_12, eσ_12, h⟩ := kf_lte h
      refine wa_iast k_v1 g_11 E d_X1_save_66 eσ_12 ?_
      refine wa_aload_n 1 rfl E d_X1_save_67 ?_
      refine wa_iload_n 2 rfl E d_X1_save_68 ?_
      refine wa_iconst 4 ic_4 E d_X1_save_69 ?_
      refine wa_iadd E d_X1_save_70 ?_
      refine wa_iconst 4 ic_4 E d_X1_save_71 ?_
      refine wa_iadd E d_X1_save_72 ?_
      refine wa_aload_n 0 rfl E d_X1_save_73 ?_
      refine wa_getZ fl_X1_28 k_v0 rfl E d_X1_save_74 ?_
      refine wa_if_eq E d_X1_save_77 (fun c_13 => ?_) (fun c_13 => ?_)
      · replace h := kf_ift c_13 h
        refine wa_iconst 0 ic_0 E d_X1_save_84 ?_
        refine wa_sub [] rfl ?_
        exact b_X1_save_85 E hty v1 ((v2 + 4) + 4) 0 k_v1 σ_12 h
      · replace h := kf_iff c_13 h
        refine wa_iconst 1 ic_1 E d_X1_save_80 ?_
        refine wa_goto E d_X1_save_81 ?_
        refine wa_sub [] rfl ?_
        exact b_X1_save_85 E hty v1 ((v2 + 4) + 4) 1 k_v1 σ_12 h
    · replace h := kf_iff c_2 h
      cases h
      exact wa_vret E d_X1_save_13
/-! X1_load -/
theorem d_X1_load_0 : kf_dq cX1_load 0 1 1 (.iload_n 2) := ⟨by decide +kernel, rfl⟩
theorem d_X1_load_1 : kf_dj cX1_load 1 4 13 (.ifCond .lt) := ⟨12, by decide +kernel, rfl, by decide⟩
theorem d_X1_load_4 : kf_dq cX1_load 4 5 1 (.iload_n 2) := ⟨by decide +kernel, rfl⟩
theorem d_X1_load_5 : kf_dq cX1_load 5 6 1 (.aload_n 1) := ⟨by decide +kernel, rfl⟩
theorem d_X1_load_6 : kf_dq cX1_load 6 7 1 (.arraylength) := ⟨by decide +kernel, rfl⟩
theorem d_X1_load_7 : kf_dq cX1_load 7 9 2 (.bipush 9) := ⟨by decide +kernel, rfl⟩
theorem d_X1_load_9 : kf_dq cX1_load 9 10 1 (.isub) := ⟨by decide +kernel, rfl⟩
theorem d_X1_load_10 : kf_dj cX1_load 10 13 14 (.if_icmp .le) := ⟨4, by decide +kernel, rfl, by decide⟩
theorem d_X1_load_13 : kf_dq cX1_load 13 14 1 (.return_) := ⟨by decide +kernel, rfl⟩
theorem d_X1_load_14 : kf_dq cX1_load 14 15 1 (.aload_n 1) := ⟨by decide +kernel, rfl⟩
theorem d_X1_load_15 : kf_dq cX1_load 15 16 1 (.iload_n 2) := ⟨by decide +kernel, rfl⟩
theorem d_X1_load_16 : kf_dq cX1_load 16 17 1 (.aload_n 0) := ⟨by decide +kernel, rfl⟩
theorem d_X1_load_17 : kf_dq cX1_load 17 20 3 (.getfield 9) := ⟨by decide +kernel, rfl⟩
theorem d_X1_load_20 : kf_dq cX1_load 20 21 1 (.iconst 0) := ⟨by decide +kernel, rfl⟩
theorem d_X1_load_21 : kf_dq cX1_load 21 22 1 (.iconst 4) := ⟨by decide +kernel, rfl⟩
theorem d_X1_load_22 : kf_dq cX1_load 22 25 3 (.invokestatic 32) := ⟨by decide +kernel, rfl⟩
theorem d_X1_load_25 : kf_dq cX1_load 25 26 1 (.aload_n 0) := ⟨by decide +kernel, rfl⟩
theorem d_X1_load_26 : kf_dq cX1_load 26 27 1 (.aload_n 1) := ⟨by decide +kernel, rfl⟩
theorem d_X1_load_27 : kf_dq cX1_load 27 28 1 (.iload_n 2) := ⟨by decide +kernel, rfl⟩
theorem d_X1_load_28 : kf_dq cX1_load 28 29 1 (.iconst 4) := ⟨by decide +kernel, rfl⟩
theorem d_X1_load_29 : kf_dq cX1_load 29 30 1 (.iadd) := ⟨by decide +kernel, rfl⟩
theorem d_X1_load_30 : kf_dq cX1_load 30 31 1 (.iaload) := ⟨by decide +kernel, rfl⟩
theorem d_X1_load_31 : kf_dq cX1_load 31 34 3 (.putfield 15) := ⟨by decide +kernel, rfl⟩
theorem d_X1_load_34 : kf_dq cX1_load 34 35 1 (.aload_n 0) := ⟨by decide +kernel, rfl⟩
theorem d_X1_load_35 : kf_dq cX1_load 35 36 1 (.aload_n 1) := ⟨by decide +kernel, rfl⟩
theorem d_X1_load_36 : kf_dq cX1_load 36 37 1 (.iload_n 2) := ⟨by decide +kernel, rfl⟩
theorem d_X1_load_37 : kf_dq cX1_load 37 38 1 (.iconst 4) := ⟨by decide +kernel, rfl⟩
theorem d_X1_load_38 : kf_dq cX1_load 38 39 1 (.iadd) := ⟨by decide +kernel, rfl⟩
theorem d_X1_load_39 : kf_dq cX1_load 39 40 1 (.iconst 1) := ⟨by decide +kernel, rfl⟩
theorem d_X1_load_40 : kf_dq cX1_load 40 41 1 (.iadd) := ⟨by decide +kernel, rfl⟩
theorem d_X1_load_41 : kf_dq cX1_load 41 42 1 (.iaload) := ⟨by decide +kernel, rfl⟩
theorem d_X1_load_42 : kf_dq cX1_load 42 45 3 (.putfield 19) := ⟨by decide +kernel, rfl⟩
theorem d_X1_load_45 : kf_dq cX1_load 45 46 1 (.aload_n 0) := ⟨by decide +kernel, rfl⟩
theorem d_X1_load_46 : kf_dq cX1_load 46 47 1 (.aload_n 1) := ⟨by decide +kernel, rfl⟩
theorem d_X1_load_47 : kf_dq cX1_load 47 48 1 (.iload_n 2) := ⟨by decide +kernel, rfl⟩
theorem d_X1_load_48 : kf_dq cX1_load 48 49 1 (.iconst 4) := ⟨by decide +kernel, rfl⟩
theorem d_X1_load_49 : kf_dq cX1_load 49 50 1 (.iadd) := ⟨by decide +kernel, rfl⟩
theorem d_X1_load_50 : kf_dq cX1_load 50 51 1 (.iconst 2) := ⟨by decide +kernel, rfl⟩
theorem d_X1_load_51 : kf_dq cX1_load 51 52 1 (.iadd) := ⟨by decide +kernel, rfl⟩
theorem d_X1_load_52 : kf_dq cX1_load 52 53 1 (.iaload) := ⟨by decide +kernel, rfl⟩
theorem d_X1_load_53 : kf_dq cX1_load 53 56 3 (.putfield 22) := ⟨by decide +kernel, rfl⟩
theorem d_X1_load_56 : kf_dq cX1_load 56 57 1 (.aload_n 0) := ⟨by decide +kernel, rfl⟩
theorem d_X1_load_57 : kf_dq cX1_load 57 58 1 (.aload_n 1) := ⟨by decide +kernel, rfl⟩
theorem d_X1_load_58 : kf_dq cX1_load 58 59 1 (.iload_n 2) := ⟨by decide +kernel, rfl⟩
theorem d_X1_load_59 : kf_dq cX1_load 59 60 1 (.iconst 4) := ⟨by decide +kernel, rfl⟩
theorem d_X1_load_60 : kf_dq cX1_load 60 61 1 (.iadd) := ⟨by decide +kernel, rfl⟩
theorem d_X1_load_61 : kf_dq cX1_load 61 62 1 (.iconst 3) := ⟨by decide +kernel, rfl⟩
theorem d_X1_load_62 : kf_dq cX1_load 62 63 1 (.iadd) := ⟨by decide +kernel, rfl⟩
theorem d_X1_load_63 : kf_dq cX1_load 63 64 1 (.iaload) := ⟨by decide +kernel, rfl⟩
theorem d_X1_load_64 : kf_dq cX1_load 64 67 3 (.putfield 25) := ⟨by decide +kernel, rfl⟩
theorem d_X1_load_67 : kf_dq cX1_load 67 68 1 (.aload_n 0) := ⟨by decide +kernel, rfl⟩
theorem d_X1_load_68 : kf_dq cX1_load 68 69 1 (.aload_n 1) := ⟨by decide +kernel, rfl⟩
theorem d_X1_load_69 : kf_dq cX1_load 69 70 1 (.iload_n 2) := ⟨by decide +kernel, rfl⟩
theorem d_X1_load_70 : kf_dq cX1_load 70 71 1 (.iconst 4) := ⟨by decide +kernel, rfl⟩
theorem d_X1_load_71 : kf_dq cX1_load 71 72 1 (.iadd) := ⟨by decide +kernel, rfl⟩
theorem d_X1_load_72 : kf_dq cX1_load 72 73 1 (.iconst 4) := ⟨by decide +kernel, rfl⟩
theorem d_X1_load_73 : kf_dq cX1_load 73 74 1 (.iadd) := ⟨by decide +kernel, rfl⟩
theorem d_X1_load_74 : kf_dq cX1_load 74 75 1 (.iaload) := ⟨by decide +kernel, rfl⟩
theorem d_X1_load_75 : kf_dq cX1_load 75 76 1 (.iconst 1) := ⟨by decide +kernel, rfl⟩
theorem d_X1_load_76 : kf_dj cX1_load 76 79 83 (.if_icmp .ne) := ⟨7, by decide +kernel, rfl, by decide⟩
theorem d_X1_load_79 : kf_dq cX1_load 79 80 1 (.iconst 1) := ⟨by decide +kernel, rfl⟩
theorem d_X1_load_80 : kf_dj cX1_load 80 83 84 .goto := ⟨4, by decide +kernel, rfl, by decide⟩
theorem d_X1_load_83 : kf_dq cX1_load 83 84 1 (.iconst 0) := ⟨by decide +kernel, rfl⟩
theorem d_X1_load_84 : kf_dq cX1_load 84 87 3 (.putfield 28) := ⟨by decide +kernel, rfl⟩
theorem d_X1_load_87 : kf_dq cX1_load 87 88 1 (.return_) := ⟨by decide +kernel, rfl⟩
def f_X1_load_84 (s0 : Nat) (s1 : Int32) (σ : kf_St) : Option kf_St :=
  if kf_zb s1 = true then
  kf_lt (kf_wi σ s0 5 s1) fun σ_1 =>
  some σ_1
  else none
set_option maxRecDepth 100000 in
set_option maxHeartbeats 4000000 in
theorem b_X1_load_84 {X : kf_X} {G : kf_G} {q : kf_St} (E : kf_ok X G cX1_load RX1 3 none (1)) (hty : kf_wt G) (s0 : Nat) (s1 : Int32) (k_s0 : kf_kd G s0 = 2) (σ : kf_St) (h : f_X1_load_84 s0 s1 σ = some q) : kf_WA X G 3 (kf_Q X G none q) 84 [] [.int s1, .ref (kf_ad G s0)] σ := by
  unfold f_X1_load_84 at h
  obtain ⟨g_2, h⟩ := kf_gd h
  obtain ⟨σ_1, eσ_1, h⟩ := kf_lte h
  refine wa_putI fl_X1_28 fp_1_5 k_s0 rfl (by decide) (kf_zbn g_2) (kf_zbf g_2) E d_X1_load_84 eσ_1 ?_
  cases h
  exact wa_vret E d_X1_load_87
def f_X1_load (v0 : Nat) (v1 : Nat) (v2 : Int32) (σ : kf_St) : Option kf_St :=
  if v2 < 0 then
    some σ
  else
    if v2 ≤ ((nI (kf_ln v1)) - 9) then
      if kf_cok v2 0 4 (kf_ln v1) (kf_ln (kf_rf v0 0)) = true then
      kf_lt (kf_ci σ v1 (kf_rf v0 0) (Int32.toNatClampNeg v2) (Int32.toNatClampNeg 0) (Int32.toNatClampNeg 4)) fun σ_4 =>
      if kf_ix (v2 + 4) (kf_ln v1) = true then
      kf_lt (kf_wi σ_4 v0 1 (σ_4.1 v1 (Int32.toNatClampNeg (v2 + 4)))) fun σ_6 =>
      if kf_ix ((v2 + 4) + 1) (kf_ln v1) = true then
      kf_lt (kf_wi σ_6 v0 2 (σ_6.1 v1 (Int32.toNatClampNeg ((v2 + 4) + 1)))) fun σ_8 =>
      if kf_ix ((v2 + 4) + 2) (kf_ln v1) = true then
      kf_lt (kf_wi σ_8 v0 3 (σ_8.1 v1 (Int32.toNatClampNeg ((v2 + 4) + 2)))) fun σ_10 =>
      if kf_ix ((v2 + 4) + 3) (kf_ln v1) = true then
      kf_lt (kf_wi σ_10 v0 4 (σ_10.1 v1 (Int32.toNatClampNeg ((v2 + 4) + 3)))) fun σ_12 =>
      if kf_ix ((v2 + 4) + 4) (kf_ln v1) = true then
      if (σ_12.1 v1 (Int32.toNatClampNeg ((v2 + 4) + 4))) = 1 then
        f_X1_load_84 v0 1 σ_12
      else
        f_X1_load_84 v0 0 σ_12
      else none
      else none
      else none
      else none
      else none
      else none
    else
      some σ
set_option maxRecDepth 100000 in
set_option maxHeartbeats 4000000 in
theorem c_X1_load {G : kf_G} (hty : kf_wt G) (v0 : Nat) (v1 : Nat) (v2 : Int32) (k_v0 : kf_kd G v0 = 2) (k_v1 : kf_kd G v1 = 50) (σ : kf_St) {q : kf_St} (h : f_X1_load v0 v1 v2 σ = some q) : kf_Ct (1) yX1_load cX1_load 3 none G [.ref (kf_ad G v0), .ref (kf_ad G v1), .int v2] σ none q := by
  refine kf_Ct.of hty.1 (lv := [(0, .ref (kf_ad G v0)), (1, .ref (kf_ad G v1)), (2, .int v2)]) (by decide +kernel) rfl (Nat.le_of_ble_eq_true rfl) (fun X E => ?_)
  unfold f_X1_load at h
  refine wa_iload_n 2 rfl E d_X1_load_0 ?_
  refine wa_if_lt E d_X1_load_1 (fun c_1 => ?_) (fun c_1 => ?_)
  · replace h := kf_ift c_1 h
    cases h
    exact wa_vret E d_X1_load_13
  · replace h := kf_iff c_1 h
    refine wa_iload_n 2 rfl E d_X1_load_4 ?_
    refine wa_aload_n 1 rfl E d_X1_load_5 ?_
    refine wa_alen_i k_v1 E d_X1_load_6 ?_
    refine wa_bipush 9 bp_9 E d_X1_load_7 ?_
    refine wa_isub E d_X1_load_9 ?_
    refine wa_icmp_le E d_X1_load_10 (fun c_2 => ?_) (fun c_2 => ?_)
    · replace h := kf_ift c_2 h
      refine wa_aload_n 1 rfl E d_X1_load_14 ?_
      refine wa_iload_n 2 rfl E d_X1_load_15 ?_
      refine wa_aload_n 0 rfl E d_X1_load_16 ?_
      refine wa_getR fl_X1_9 k_v0 rfl E d_X1_load_17 ?_
      refine wa_iconst 0 ic_0 E d_X1_load_20 ?_
      refine wa_iconst 4 ic_4 E d_X1_load_21 ?_
      obtain ⟨g_3, h⟩ := kf_gd h
      obtain ⟨σ_4, eσ_4, h⟩ := kf_lte h
      refine wa_copyi cw_X1_32 k_v1 (kf_wtf hty 0 49 k_v0 (by decide) rfl) g_3 (Nat.le_of_ble_eq_true rfl) (Nat.le_of_ble_eq_true rfl) E d_X1_load_22 eσ_4 ?_
      refine wa_aload_n 0 rfl E d_X1_load_25 ?_
      refine wa_aload_n 1 rfl E d_X1_load_26 ?_
      refine wa_iload_n 2 rfl E d_X1_load_27 ?_
      refine wa_iconst 4 ic_4 E d_X1_load_28 ?_
      refine wa_iadd E d_X1_load_29 ?_
      obtain ⟨g_5, h⟩ := kf_gd h
      refine wa_iald k_v1 g_5 E d_X1_load_30 ?_
      obtain ⟨σ_6, eσ_6, h⟩ := kf_lte h
      refine wa_putI fl_X1_15 fp_1_1 k_v0 rfl (by decide) rfl rfl E d_X1_load_31 eσ_6 ?_
      refine wa_aload_n 0 rfl E d_X1_load_34 ?_
      refine wa_aload_n 1 rfl E d_X1_load_35 ?_
      refine wa_iload_n 2 rfl E d_X1_load_36 ?_
      refine wa_iconst 4 ic_4 E d_X1_load_37 ?_
      refine wa_iadd E d_X1_load_38 ?_
      refine wa_iconst 1 ic_1 E d_X1_load_39 ?_
      refine wa_iadd E d_X1_load_40 ?_
      obtain ⟨g_7, h⟩ := kf_gd h
      refine wa_iald k_v1 g_7 E d_X1_load_41 ?_
      obtain ⟨σ_8, eσ_8, h⟩ := kf_lte h
      refine wa_putI fl_X1_19 fp_1_2 k_v0 rfl (by decide) rfl rfl E d_X1_load_42 eσ_8 ?_
      refine wa_aload_n 0 rfl E d_X1_load_45 ?_
      refine wa_aload_n 1 rfl E d_X1_load_46 ?_
      refine wa_iload_n 2 rfl E d_X1_load_47 ?_
      refine wa_iconst 4 ic_4 E d_X1_load_48 ?_
      refine wa_iadd E d_X1_load_49 ?_
      refine wa_iconst 2 ic_2 E d_X1_load_50 ?_
      refine wa_iadd E d_X1_load_51 ?_
      obtain ⟨g_9, h⟩ := kf_gd h
      refine wa_iald k_v1 g_9 E d_X1_load_52 ?_
      obtain ⟨σ_10, eσ_10, h⟩ := kf_lte h
      refine wa_putI fl_X1_22 fp_1_3 k_v0 rfl (by decide) rfl rfl E d_X1_load_53 eσ_10 ?_
      refine wa_aload_n 0 rfl E d_X1_load_56 ?_
      refine wa_aload_n 1 rfl E d_X1_load_57 ?_
      refine wa_iload_n 2 rfl E d_X1_load_58 ?_
      refine wa_iconst 4 ic_4 E d_X1_load_59 ?_
      refine wa_iadd E d_X1_load_60 ?_
      refine wa_iconst 3 ic_3 E d_X1_load_61 ?_
      refine wa_iadd E d_X1_load_62 ?_
      obtain ⟨g_11, h⟩ := kf_gd h
      refine wa_iald k_v1 g_11 E d_X1_load_63 ?_
      obtain ⟨σ_12, eσ_12, h⟩ := kf_lte h
      refine wa_putI fl_X1_25 fp_1_4 k_v0 rfl (by decide) rfl rfl E d_X1_load_64 eσ_12 ?_
      refine wa_aload_n 0 rfl E d_X1_load_67 ?_
      refine wa_aload_n 1 rfl E d_X1_load_68 ?_
      refine wa_iload_n 2 rfl E d_X1_load_69 ?_
      refine wa_iconst 4 ic_4 E d_X1_load_70 ?_
      refine wa_iadd E d_X1_load_71 ?_
      refine wa_iconst 4 ic_4 E d_X1_load_72 ?_
      refine wa_iadd E d_X1_load_73 ?_
      obtain ⟨g_13, h⟩ := kf_gd h
      refine wa_iald k_v1 g_13 E d_X1_load_74 ?_
      refine wa_iconst 1 ic_1 E d_X1_load_75 ?_
      refine wa_icmp_ne E d_X1_load_76 (fun c_14 => ?_) (fun c_14 => ?_)
      · replace h := kf_iff c_14 h
        refine wa_iconst 0 ic_0 E d_X1_load_83 ?_
        refine wa_sub [] rfl ?_
        exact b_X1_load_84 E hty v0 0 k_v0 σ_12 h
      · replace h := kf_ift c_14 h
        refine wa_iconst 1 ic_1 E d_X1_load_79 ?_
        refine wa_goto E d_X1_load_80 ?_
        refine wa_sub [] rfl ?_
        exact b_X1_load_84 E hty v0 1 k_v0 σ_12 h
    · replace h := kf_iff c_2 h
      cases h
      exact wa_vret E d_X1_load_13
/-! X2_clear -/
theorem d_X2_clear_0 : kf_dq cX2_clear 0 1 1 (.aload_n 0) := ⟨by decide +kernel, rfl⟩
theorem d_X2_clear_1 : kf_dq cX2_clear 1 2 1 (.iconst 0) := ⟨by decide +kernel, rfl⟩
theorem d_X2_clear_2 : kf_dq cX2_clear 2 5 3 (.putfield 18) := ⟨by decide +kernel, rfl⟩
theorem d_X2_clear_5 : kf_dq cX2_clear 5 6 1 (.return_) := ⟨by decide +kernel, rfl⟩
def f_X2_clear (v0 : Nat) (σ : kf_St) : Option kf_St :=
  kf_lt (kf_wi σ v0 0 0) fun σ_1 =>
  some σ_1
set_option maxRecDepth 100000 in
set_option maxHeartbeats 4000000 in
theorem c_X2_clear {G : kf_G} (hty : kf_wt G) (v0 : Nat) (k_v0 : kf_kd G v0 = 3) (σ : kf_St) {q : kf_St} (h : f_X2_clear v0 σ = some q) : kf_Ct (1) yX2_clear cX2_clear 1 none G [.ref (kf_ad G v0)] σ none q := by
  refine kf_Ct.of hty.1 (lv := [(0, .ref (kf_ad G v0))]) (by decide +kernel) rfl (Nat.le_of_ble_eq_true rfl) (fun X E => ?_)
  unfold f_X2_clear at h
  refine wa_aload_n 0 rfl E d_X2_clear_0 ?_
  refine wa_iconst 0 ic_0 E d_X2_clear_1 ?_
  obtain ⟨σ_1, eσ_1, h⟩ := kf_lte h
  refine wa_putI fl_X2_18 fp_2_0 k_v0 rfl (by decide) rfl rfl E d_X2_clear_2 eσ_1 ?_
  cases h
  exact wa_vret E d_X2_clear_5
/-! X2_put -/
theorem d_X2_put_0 : kf_dq cX2_put 0 1 1 (.aload_n 0) := ⟨by decide +kernel, rfl⟩
theorem d_X2_put_1 : kf_dq cX2_put 1 4 3 (.getfield 18) := ⟨by decide +kernel, rfl⟩
theorem d_X2_put_4 : kf_dq cX2_put 4 5 1 (.aload_n 0) := ⟨by decide +kernel, rfl⟩
theorem d_X2_put_5 : kf_dq cX2_put 5 8 3 (.getfield 9) := ⟨by decide +kernel, rfl⟩
theorem d_X2_put_8 : kf_dq cX2_put 8 9 1 (.arraylength) := ⟨by decide +kernel, rfl⟩
theorem d_X2_put_9 : kf_dj cX2_put 9 12 36 (.if_icmp .ge) := ⟨27, by decide +kernel, rfl, by decide⟩
theorem d_X2_put_12 : kf_dq cX2_put 12 13 1 (.aload_n 0) := ⟨by decide +kernel, rfl⟩
theorem d_X2_put_13 : kf_dq cX2_put 13 16 3 (.getfield 9) := ⟨by decide +kernel, rfl⟩
theorem d_X2_put_16 : kf_dq cX2_put 16 17 1 (.aload_n 0) := ⟨by decide +kernel, rfl⟩
theorem d_X2_put_17 : kf_dq cX2_put 17 20 3 (.getfield 18) := ⟨by decide +kernel, rfl⟩
theorem d_X2_put_20 : kf_dq cX2_put 20 21 1 (.iload_n 2) := ⟨by decide +kernel, rfl⟩
theorem d_X2_put_21 : kf_dq cX2_put 21 22 1 (.iconst 3) := ⟨by decide +kernel, rfl⟩
theorem d_X2_put_22 : kf_dq cX2_put 22 23 1 (.ishl) := ⟨by decide +kernel, rfl⟩
theorem d_X2_put_23 : kf_dq cX2_put 23 24 1 (.iload_n 1) := ⟨by decide +kernel, rfl⟩
theorem d_X2_put_24 : kf_dq cX2_put 24 25 1 (.ior) := ⟨by decide +kernel, rfl⟩
theorem d_X2_put_25 : kf_dq cX2_put 25 26 1 (.iastore) := ⟨by decide +kernel, rfl⟩
theorem d_X2_put_26 : kf_dq cX2_put 26 27 1 (.aload_n 0) := ⟨by decide +kernel, rfl⟩
theorem d_X2_put_27 : kf_dq cX2_put 27 28 1 (.dup) := ⟨by decide +kernel, rfl⟩
theorem d_X2_put_28 : kf_dq cX2_put 28 31 3 (.getfield 18) := ⟨by decide +kernel, rfl⟩
theorem d_X2_put_31 : kf_dq cX2_put 31 32 1 (.iconst 1) := ⟨by decide +kernel, rfl⟩
theorem d_X2_put_32 : kf_dq cX2_put 32 33 1 (.iadd) := ⟨by decide +kernel, rfl⟩
theorem d_X2_put_33 : kf_dq cX2_put 33 36 3 (.putfield 18) := ⟨by decide +kernel, rfl⟩
theorem d_X2_put_36 : kf_dq cX2_put 36 37 1 (.return_) := ⟨by decide +kernel, rfl⟩
def f_X2_put (v0 : Nat) (v1 : Int32) (v2 : Int32) (σ : kf_St) : Option kf_St :=
  if (nI (kf_ln (kf_rf v0 1))) ≤ (σ.1 v0 0) then
    some σ
  else
    if kf_ix (σ.1 v0 0) (kf_ln (kf_rf v0 1)) = true then
    kf_lt (kf_wi σ (kf_rf v0 1) (Int32.toNatClampNeg (σ.1 v0 0)) ((v2 <<< (3 &&& 31)) ||| v1)) fun σ_3 =>
    kf_lt (kf_wi σ_3 v0 0 ((σ_3.1 v0 0) + 1)) fun σ_4 =>
    some σ_4
    else none
set_option maxRecDepth 100000 in
set_option maxHeartbeats 4000000 in
theorem c_X2_put {G : kf_G} (hty : kf_wt G) (v0 : Nat) (v1 : Int32) (v2 : Int32) (k_v0 : kf_kd G v0 = 3) (σ : kf_St) {q : kf_St} (h : f_X2_put v0 v1 v2 σ = some q) : kf_Ct (1) yX2_put cX2_put 3 none G [.ref (kf_ad G v0), .int v1, .int v2] σ none q := by
  refine kf_Ct.of hty.1 (lv := [(0, .ref (kf_ad G v0)), (1, .int v1), (2, .int v2)]) (by decide +kernel) rfl (Nat.le_of_ble_eq_true rfl) (fun X E => ?_)
  unfold f_X2_put at h
  refine wa_aload_n 0 rfl E d_X2_put_0 ?_
  refine wa_getI fl_X2_18 k_v0 rfl E d_X2_put_1 ?_
  refine wa_aload_n 0 rfl E d_X2_put_4 ?_
  refine wa_getR fl_X2_9 k_v0 rfl E d_X2_put_5 ?_
  refine wa_alen_i (kf_wtf hty 1 49 k_v0 (by decide) rfl) E d_X2_put_8 ?_
  refine wa_icmp_ge E d_X2_put_9 (fun c_1 => ?_) (fun c_1 => ?_)
  · replace h := kf_ift c_1 h
    cases h
    exact wa_vret E d_X2_put_36
  · replace h := kf_iff c_1 h
    refine wa_aload_n 0 rfl E d_X2_put_12 ?_
    refine wa_getR fl_X2_9 k_v0 rfl E d_X2_put_13 ?_
    refine wa_aload_n 0 rfl E d_X2_put_16 ?_
    refine wa_getI fl_X2_18 k_v0 rfl E d_X2_put_17 ?_
    refine wa_iload_n 2 rfl E d_X2_put_20 ?_
    refine wa_iconst 3 ic_3 E d_X2_put_21 ?_
    refine wa_ishl E d_X2_put_22 ?_
    refine wa_iload_n 1 rfl E d_X2_put_23 ?_
    refine wa_ior E d_X2_put_24 ?_
    obtain ⟨g_2, h⟩ := kf_gd h
    obtain ⟨σ_3, eσ_3, h⟩ := kf_lte h
    refine wa_iast (kf_wtf hty 1 49 k_v0 (by decide) rfl) g_2 E d_X2_put_25 eσ_3 ?_
    refine wa_aload_n 0 rfl E d_X2_put_26 ?_
    refine wa_dup rfl E d_X2_put_27 ?_
    refine wa_getI fl_X2_18 k_v0 rfl E d_X2_put_28 ?_
    refine wa_iconst 1 ic_1 E d_X2_put_31 ?_
    refine wa_iadd E d_X2_put_32 ?_
    obtain ⟨σ_4, eσ_4, h⟩ := kf_lte h
    refine wa_putI fl_X2_18 fp_2_0 k_v0 rfl (by decide) rfl rfl E d_X2_put_33 eσ_4 ?_
    cases h
    exact wa_vret E d_X2_put_36
/-! X2_aim -/
theorem d_X2_aim_0 : kf_dq cX2_aim 0 1 1 (.iload_n 1) := ⟨by decide +kernel, rfl⟩
theorem d_X2_aim_1 : kf_dj cX2_aim 1 4 24 (.ifCond .lt) := ⟨23, by decide +kernel, rfl, by decide⟩
theorem d_X2_aim_4 : kf_dq cX2_aim 4 5 1 (.iload_n 1) := ⟨by decide +kernel, rfl⟩
theorem d_X2_aim_5 : kf_dq cX2_aim 5 6 1 (.aload_n 0) := ⟨by decide +kernel, rfl⟩
theorem d_X2_aim_6 : kf_dq cX2_aim 6 9 3 (.getfield 18) := ⟨by decide +kernel, rfl⟩
theorem d_X2_aim_9 : kf_dj cX2_aim 9 12 24 (.if_icmp .ge) := ⟨15, by decide +kernel, rfl, by decide⟩
theorem d_X2_aim_12 : kf_dq cX2_aim 12 13 1 (.aload_n 0) := ⟨by decide +kernel, rfl⟩
theorem d_X2_aim_13 : kf_dq cX2_aim 13 16 3 (.getfield 9) := ⟨by decide +kernel, rfl⟩
theorem d_X2_aim_16 : kf_dq cX2_aim 16 17 1 (.iload_n 1) := ⟨by decide +kernel, rfl⟩
theorem d_X2_aim_17 : kf_dq cX2_aim 17 18 1 (.iload_n 2) := ⟨by decide +kernel, rfl⟩
theorem d_X2_aim_18 : kf_dq cX2_aim 18 19 1 (.iconst 3) := ⟨by decide +kernel, rfl⟩
theorem d_X2_aim_19 : kf_dq cX2_aim 19 20 1 (.ishl) := ⟨by decide +kernel, rfl⟩
theorem d_X2_aim_20 : kf_dq cX2_aim 20 22 2 (.bipush 6) := ⟨by decide +kernel, rfl⟩
theorem d_X2_aim_22 : kf_dq cX2_aim 22 23 1 (.ior) := ⟨by decide +kernel, rfl⟩
theorem d_X2_aim_23 : kf_dq cX2_aim 23 24 1 (.iastore) := ⟨by decide +kernel, rfl⟩
theorem d_X2_aim_24 : kf_dq cX2_aim 24 25 1 (.return_) := ⟨by decide +kernel, rfl⟩
def f_X2_aim (v0 : Nat) (v1 : Int32) (v2 : Int32) (σ : kf_St) : Option kf_St :=
  if v1 < 0 then
    some σ
  else
    if (σ.1 v0 0) ≤ v1 then
      some σ
    else
      if kf_ix v1 (kf_ln (kf_rf v0 1)) = true then
      kf_lt (kf_wi σ (kf_rf v0 1) (Int32.toNatClampNeg v1) ((v2 <<< (3 &&& 31)) ||| 6)) fun σ_4 =>
      some σ_4
      else none
set_option maxRecDepth 100000 in
set_option maxHeartbeats 4000000 in
theorem c_X2_aim {G : kf_G} (hty : kf_wt G) (v0 : Nat) (v1 : Int32) (v2 : Int32) (k_v0 : kf_kd G v0 = 3) (σ : kf_St) {q : kf_St} (h : f_X2_aim v0 v1 v2 σ = some q) : kf_Ct (1) yX2_aim cX2_aim 3 none G [.ref (kf_ad G v0), .int v1, .int v2] σ none q := by
  refine kf_Ct.of hty.1 (lv := [(0, .ref (kf_ad G v0)), (1, .int v1), (2, .int v2)]) (by decide +kernel) rfl (Nat.le_of_ble_eq_true rfl) (fun X E => ?_)
  unfold f_X2_aim at h
  refine wa_iload_n 1 rfl E d_X2_aim_0 ?_
  refine wa_if_lt E d_X2_aim_1 (fun c_1 => ?_) (fun c_1 => ?_)
  · replace h := kf_ift c_1 h
    cases h
    exact wa_vret E d_X2_aim_24
  · replace h := kf_iff c_1 h
    refine wa_iload_n 1 rfl E d_X2_aim_4 ?_
    refine wa_aload_n 0 rfl E d_X2_aim_5 ?_
    refine wa_getI fl_X2_18 k_v0 rfl E d_X2_aim_6 ?_
    refine wa_icmp_ge E d_X2_aim_9 (fun c_2 => ?_) (fun c_2 => ?_)
    · replace h := kf_ift c_2 h
      cases h
      exact wa_vret E d_X2_aim_24
    · replace h := kf_iff c_2 h
      refine wa_aload_n 0 rfl E d_X2_aim_12 ?_
      refine wa_getR fl_X2_9 k_v0 rfl E d_X2_aim_13 ?_
      refine wa_iload_n 1 rfl E d_X2_aim_16 ?_
      refine wa_iload_n 2 rfl E d_X2_aim_17 ?_
      refine wa_iconst 3 ic_3 E d_X2_aim_18 ?_
      refine wa_ishl E d_X2_aim_19 ?_
      refine wa_bipush 6 bp_6 E d_X2_aim_20 ?_
      refine wa_ior E d_X2_aim_22 ?_
      obtain ⟨g_3, h⟩ := kf_gd h
      obtain ⟨σ_4, eσ_4, h⟩ := kf_lte h
      refine wa_iast (kf_wtf hty 1 49 k_v0 (by decide) rfl) g_3 E d_X2_aim_23 eσ_4 ?_
      cases h
      exact wa_vret E d_X2_aim_24
/-! X2_become -/
theorem d_X2_become_0 : kf_dq cX2_become 0 1 1 (.aload_n 0) := ⟨by decide +kernel, rfl⟩
theorem d_X2_become_1 : kf_dq cX2_become 1 2 1 (.aload_n 1) := ⟨by decide +kernel, rfl⟩
theorem d_X2_become_2 : kf_dq cX2_become 2 5 3 (.getfield 18) := ⟨by decide +kernel, rfl⟩
theorem d_X2_become_5 : kf_dq cX2_become 5 8 3 (.putfield 18) := ⟨by decide +kernel, rfl⟩
theorem d_X2_become_8 : kf_dq cX2_become 8 9 1 (.aload_n 1) := ⟨by decide +kernel, rfl⟩
theorem d_X2_become_9 : kf_dq cX2_become 9 12 3 (.getfield 9) := ⟨by decide +kernel, rfl⟩
theorem d_X2_become_12 : kf_dq cX2_become 12 13 1 (.iconst 0) := ⟨by decide +kernel, rfl⟩
theorem d_X2_become_13 : kf_dq cX2_become 13 14 1 (.aload_n 0) := ⟨by decide +kernel, rfl⟩
theorem d_X2_become_14 : kf_dq cX2_become 14 17 3 (.getfield 9) := ⟨by decide +kernel, rfl⟩
theorem d_X2_become_17 : kf_dq cX2_become 17 18 1 (.iconst 0) := ⟨by decide +kernel, rfl⟩
theorem d_X2_become_18 : kf_dq cX2_become 18 19 1 (.aload_n 0) := ⟨by decide +kernel, rfl⟩
theorem d_X2_become_19 : kf_dq cX2_become 19 22 3 (.getfield 18) := ⟨by decide +kernel, rfl⟩
theorem d_X2_become_22 : kf_dq cX2_become 22 25 3 (.invokestatic 22) := ⟨by decide +kernel, rfl⟩
theorem d_X2_become_25 : kf_dq cX2_become 25 26 1 (.return_) := ⟨by decide +kernel, rfl⟩
def f_X2_become (v0 : Nat) (v1 : Nat) (σ : kf_St) : Option kf_St :=
  kf_lt (kf_wi σ v0 0 (σ.1 v1 0)) fun σ_1 =>
  if kf_cok 0 0 (σ_1.1 v0 0) (kf_ln (kf_rf v1 1)) (kf_ln (kf_rf v0 1)) = true then
  kf_lt (kf_ci σ_1 (kf_rf v1 1) (kf_rf v0 1) (Int32.toNatClampNeg 0) (Int32.toNatClampNeg 0) (Int32.toNatClampNeg (σ_1.1 v0 0))) fun σ_3 =>
  some σ_3
  else none
set_option maxRecDepth 100000 in
set_option maxHeartbeats 4000000 in
theorem c_X2_become {G : kf_G} (hty : kf_wt G) (v0 : Nat) (v1 : Nat) (k_v0 : kf_kd G v0 = 3) (k_v1 : kf_kd G v1 = 3) (σ : kf_St) {q : kf_St} (h : f_X2_become v0 v1 σ = some q) : kf_Ct (1) yX2_become cX2_become 2 none G [.ref (kf_ad G v0), .ref (kf_ad G v1)] σ none q := by
  refine kf_Ct.of hty.1 (lv := [(0, .ref (kf_ad G v0)), (1, .ref (kf_ad G v1))]) (by decide +kernel) rfl (Nat.le_of_ble_eq_true rfl) (fun X E => ?_)
  unfold f_X2_become at h
  refine wa_aload_n 0 rfl E d_X2_become_0 ?_
  refine wa_aload_n 1 rfl E d_X2_become_1 ?_
  refine wa_getI fl_X2_18 k_v1 rfl E d_X2_become_2 ?_
  obtain ⟨σ_1, eσ_1, h⟩ := kf_lte h
  refine wa_putI fl_X2_18 fp_2_0 k_v0 rfl (by decide) rfl rfl E d_X2_become_5 eσ_1 ?_
  refine wa_aload_n 1 rfl E d_X2_become_8 ?_
  refine wa_getR fl_X2_9 k_v1 rfl E d_X2_become_9 ?_
  refine wa_iconst 0 ic_0 E d_X2_become_12 ?_
  refine wa_aload_n 0 rfl E d_X2_become_13 ?_
  refine wa_getR fl_X2_9 k_v0 rfl E d_X2_become_14 ?_
  refine wa_iconst 0 ic_0 E d_X2_become_17 ?_
  refine wa_aload_n 0 rfl E d_X2_become_18 ?_
  refine wa_getI fl_X2_18 k_v0 rfl E d_X2_become_19 ?_
  obtain ⟨g_2, h⟩ := kf_gd h
  obtain ⟨σ_3, eσ_3, h⟩ := kf_lte h
  refine wa_copyi cw_X2_22 (kf_wtf hty 1 49 k_v1 (by decide) rfl) (kf_wtf hty 1 49 k_v0 (by decide) rfl) g_2 (Nat.le_of_ble_eq_true rfl) (Nat.le_of_ble_eq_true rfl) E d_X2_become_22 eσ_3 ?_
  cases h
  exact wa_vret E d_X2_become_25
/-! X3_hasSlot -/
theorem d_X3_hasSlot_0 : kf_dq cX3_hasSlot 0 1 1 (.iload_n 0) := ⟨by decide +kernel, rfl⟩
theorem d_X3_hasSlot_1 : kf_dj cX3_hasSlot 1 4 13 (.ifCond .lt) := ⟨12, by decide +kernel, rfl, by decide⟩
theorem d_X3_hasSlot_4 : kf_dq cX3_hasSlot 4 5 1 (.iload_n 0) := ⟨by decide +kernel, rfl⟩
theorem d_X3_hasSlot_5 : kf_dq cX3_hasSlot 5 6 1 (.iconst 3) := ⟨by decide +kernel, rfl⟩
theorem d_X3_hasSlot_6 : kf_dj cX3_hasSlot 6 9 13 (.if_icmp .ge) := ⟨7, by decide +kernel, rfl, by decide⟩
theorem d_X3_hasSlot_9 : kf_dq cX3_hasSlot 9 10 1 (.iconst 1) := ⟨by decide +kernel, rfl⟩
theorem d_X3_hasSlot_10 : kf_dj cX3_hasSlot 10 13 14 .goto := ⟨4, by decide +kernel, rfl, by decide⟩
theorem d_X3_hasSlot_13 : kf_dq cX3_hasSlot 13 14 1 (.iconst 0) := ⟨by decide +kernel, rfl⟩
theorem d_X3_hasSlot_14 : kf_dq cX3_hasSlot 14 15 1 (.ireturn) := ⟨by decide +kernel, rfl⟩
def f_X3_hasSlot (v0 : Int32) (σ : kf_St) : Option (Int32 × kf_St) :=
  if v0 < 0 then
    some (0, σ)
  else
    if 3 ≤ v0 then
      some (0, σ)
    else
      some (1, σ)
set_option maxRecDepth 100000 in
set_option maxHeartbeats 4000000 in
theorem c_X3_hasSlot {G : kf_G} (hty : kf_wt G) (v0 : Int32) (σ : kf_St) {q : (Int32 × kf_St)} (h : f_X3_hasSlot v0 σ = some q) : kf_Ct (1) yX3_hasSlot cX3_hasSlot 1 (some .boolean) G [.int v0] σ (some (.int q.1)) q.2 := by
  refine kf_Ct.of hty.1 (lv := [(0, .int v0)]) (by decide +kernel) rfl (Nat.le_of_ble_eq_true rfl) (fun X E => ?_)
  unfold f_X3_hasSlot at h
  refine wa_iload_n 0 rfl E d_X3_hasSlot_0 ?_
  refine wa_if_lt E d_X3_hasSlot_1 (fun c_1 => ?_) (fun c_1 => ?_)
  · replace h := kf_ift c_1 h
    refine wa_iconst 0 ic_0 E d_X3_hasSlot_13 ?_
    cases h
    exact wa_zret kf_z0 E d_X3_hasSlot_14
  · replace h := kf_iff c_1 h
    refine wa_iload_n 0 rfl E d_X3_hasSlot_4 ?_
    refine wa_iconst 3 ic_3 E d_X3_hasSlot_5 ?_
    refine wa_icmp_ge E d_X3_hasSlot_6 (fun c_2 => ?_) (fun c_2 => ?_)
    · replace h := kf_ift c_2 h
      refine wa_iconst 0 ic_0 E d_X3_hasSlot_13 ?_
      cases h
      exact wa_zret kf_z0 E d_X3_hasSlot_14
    · replace h := kf_iff c_2 h
      refine wa_iconst 1 ic_1 E d_X3_hasSlot_9 ?_
      refine wa_goto E d_X3_hasSlot_10 ?_
      cases h
      exact wa_zret kf_z1 E d_X3_hasSlot_14
/-! X3_forgetAll -/
theorem d_X3_forgetAll_0 : kf_dq cX3_forgetAll 0 1 1 (.aload_n 0) := ⟨by decide +kernel, rfl⟩
theorem d_X3_forgetAll_1 : kf_dq cX3_forgetAll 1 2 1 (.iconst 0) := ⟨by decide +kernel, rfl⟩
theorem d_X3_forgetAll_2 : kf_dq cX3_forgetAll 2 5 3 (.putfield 18) := ⟨by decide +kernel, rfl⟩
theorem d_X3_forgetAll_5 : kf_dq cX3_forgetAll 5 6 1 (.aload_n 0) := ⟨by decide +kernel, rfl⟩
theorem d_X3_forgetAll_6 : kf_dq cX3_forgetAll 6 7 1 (.iconst 0) := ⟨by decide +kernel, rfl⟩
theorem d_X3_forgetAll_7 : kf_dq cX3_forgetAll 7 10 3 (.putfield 22) := ⟨by decide +kernel, rfl⟩
theorem d_X3_forgetAll_10 : kf_dq cX3_forgetAll 10 11 1 (.return_) := ⟨by decide +kernel, rfl⟩
def f_X3_forgetAll (v0 : Nat) (σ : kf_St) : Option kf_St :=
  kf_lt (kf_wi σ v0 0 0) fun σ_1 =>
  kf_lt (kf_wi σ_1 v0 1 0) fun σ_2 =>
  some σ_2
set_option maxRecDepth 100000 in
set_option maxHeartbeats 4000000 in
theorem c_X3_forgetAll {G : kf_G} (hty : kf_wt G) (v0 : Nat) (k_v0 : kf_kd G v0 = 4) (σ : kf_St) {q : kf_St} (h : f_X3_forgetAll v0 σ = some q) : kf_Ct (1) yX3_forgetAll cX3_forgetAll 1 none G [.ref (kf_ad G v0)] σ none q := by
  refine kf_Ct.of hty.1 (lv := [(0, .ref (kf_ad G v0))]) (by decide +kernel) rfl (Nat.le_of_ble_eq_true rfl) (fun X E => ?_)
  unfold f_X3_forgetAll at h
  refine wa_aload_n 0 rfl E d_X3_forgetAll_0 ?_
  refine wa_iconst 0 ic_0 E d_X3_forgetAll_1 ?_
  obtain ⟨σ_1, eσ_1, h⟩ := kf_lte h
  refine wa_putI fl_X3_18 fp_3_0 k_v0 rfl (by decide) rfl rfl E d_X3_forgetAll_2 eσ_1 ?_
  refine wa_aload_n 0 rfl E d_X3_forgetAll_5 ?_
  refine wa_iconst 0 ic_0 E d_X3_forgetAll_6 ?_
  obtain ⟨σ_2, eσ_2, h⟩ := kf_lte h
  refine wa_putI fl_X3_22 fp_3_1 k_v0 rfl (by decide) rfl rfl E d_X3_forgetAll_7 eσ_2 ?_
  cases h
  exact wa_vret E d_X3_forgetAll_10
/-! X7_save -/
theorem d_X7_save_0 : kf_dq cX7_save 0 1 1 (.iload_n 2) := ⟨by decide +kernel, rfl⟩
theorem d_X7_save_1 : kf_dj cX7_save 1 4 13 (.ifCond .lt) := ⟨12, by decide +kernel, rfl, by decide⟩
theorem d_X7_save_4 : kf_dq cX7_save 4 5 1 (.iload_n 2) := ⟨by decide +kernel, rfl⟩
theorem d_X7_save_5 : kf_dq cX7_save 5 6 1 (.aload_n 1) := ⟨by decide +kernel, rfl⟩
theorem d_X7_save_6 : kf_dq cX7_save 6 7 1 (.arraylength) := ⟨by decide +kernel, rfl⟩
theorem d_X7_save_7 : kf_dq cX7_save 7 9 2 (.bipush 61) := ⟨by decide +kernel, rfl⟩
theorem d_X7_save_9 : kf_dq cX7_save 9 10 1 (.isub) := ⟨by decide +kernel, rfl⟩
theorem d_X7_save_10 : kf_dj cX7_save 10 13 14 (.if_icmp .le) := ⟨4, by decide +kernel, rfl, by decide⟩
theorem d_X7_save_13 : kf_dq cX7_save 13 14 1 (.return_) := ⟨by decide +kernel, rfl⟩
theorem d_X7_save_14 : kf_dq cX7_save 14 15 1 (.iconst 0) := ⟨by decide +kernel, rfl⟩
theorem d_X7_save_15 : kf_dq cX7_save 15 16 1 (.istore_n 3) := ⟨by decide +kernel, rfl⟩
theorem d_X7_save_16 : kf_dq cX7_save 16 17 1 (.iload_n 3) := ⟨by decide +kernel, rfl⟩
theorem d_X7_save_17 : kf_dq cX7_save 17 19 2 (.bipush 6) := ⟨by decide +kernel, rfl⟩
theorem d_X7_save_19 : kf_dj cX7_save 19 22 44 (.if_icmp .ge) := ⟨25, by decide +kernel, rfl, by decide⟩
theorem d_X7_save_22 : kf_dq cX7_save 22 23 1 (.aload_n 0) := ⟨by decide +kernel, rfl⟩
theorem d_X7_save_23 : kf_dq cX7_save 23 26 3 (.getfield 11) := ⟨by decide +kernel, rfl⟩
theorem d_X7_save_26 : kf_dq cX7_save 26 27 1 (.iload_n 3) := ⟨by decide +kernel, rfl⟩
theorem d_X7_save_27 : kf_dq cX7_save 27 28 1 (.aaload) := ⟨by decide +kernel, rfl⟩
theorem d_X7_save_28 : kf_dq cX7_save 28 29 1 (.aload_n 1) := ⟨by decide +kernel, rfl⟩
theorem d_X7_save_29 : kf_dq cX7_save 29 30 1 (.iload_n 2) := ⟨by decide +kernel, rfl⟩
theorem d_X7_save_30 : kf_dq cX7_save 30 31 1 (.iload_n 3) := ⟨by decide +kernel, rfl⟩
theorem d_X7_save_31 : kf_dq cX7_save 31 33 2 (.bipush 9) := ⟨by decide +kernel, rfl⟩
theorem d_X7_save_33 : kf_dq cX7_save 33 34 1 (.imul) := ⟨by decide +kernel, rfl⟩
theorem d_X7_save_34 : kf_dq cX7_save 34 35 1 (.iadd) := ⟨by decide +kernel, rfl⟩
theorem d_X7_save_35 : kf_dq cX7_save 35 38 3 (.invokevirtual 57) := ⟨by decide +kernel, rfl⟩
theorem d_X7_save_38 : kf_dq cX7_save 38 41 3 (.iinc 3 1) := ⟨by decide +kernel, rfl⟩
theorem d_X7_save_41 : kf_dj cX7_save 41 44 16 .goto := ⟨(-25), by decide +kernel, rfl, by decide⟩
theorem d_X7_save_44 : kf_dq cX7_save 44 45 1 (.iload_n 2) := ⟨by decide +kernel, rfl⟩
theorem d_X7_save_45 : kf_dq cX7_save 45 47 2 (.bipush 54) := ⟨by decide +kernel, rfl⟩
theorem d_X7_save_47 : kf_dq cX7_save 47 48 1 (.iadd) := ⟨by decide +kernel, rfl⟩
theorem d_X7_save_48 : kf_dq cX7_save 48 49 1 (.istore_n 3) := ⟨by decide +kernel, rfl⟩
theorem d_X7_save_49 : kf_dq cX7_save 49 50 1 (.aload_n 0) := ⟨by decide +kernel, rfl⟩
theorem d_X7_save_50 : kf_dq cX7_save 50 53 3 (.getfield 18) := ⟨by decide +kernel, rfl⟩
theorem d_X7_save_53 : kf_dq cX7_save 53 54 1 (.iconst 0) := ⟨by decide +kernel, rfl⟩
theorem d_X7_save_54 : kf_dq cX7_save 54 55 1 (.aload_n 1) := ⟨by decide +kernel, rfl⟩
theorem d_X7_save_55 : kf_dq cX7_save 55 56 1 (.iload_n 3) := ⟨by decide +kernel, rfl⟩
theorem d_X7_save_56 : kf_dq cX7_save 56 57 1 (.iconst 5) := ⟨by decide +kernel, rfl⟩
theorem d_X7_save_57 : kf_dq cX7_save 57 60 3 (.invokestatic 51) := ⟨by decide +kernel, rfl⟩
theorem d_X7_save_60 : kf_dq cX7_save 60 61 1 (.aload_n 1) := ⟨by decide +kernel, rfl⟩
theorem d_X7_save_61 : kf_dq cX7_save 61 62 1 (.iload_n 3) := ⟨by decide +kernel, rfl⟩
theorem d_X7_save_62 : kf_dq cX7_save 62 63 1 (.iconst 5) := ⟨by decide +kernel, rfl⟩
theorem d_X7_save_63 : kf_dq cX7_save 63 64 1 (.iadd) := ⟨by decide +kernel, rfl⟩
theorem d_X7_save_64 : kf_dq cX7_save 64 65 1 (.aload_n 0) := ⟨by decide +kernel, rfl⟩
theorem d_X7_save_65 : kf_dq cX7_save 65 68 3 (.getfield 38) := ⟨by decide +kernel, rfl⟩
theorem d_X7_save_68 : kf_dq cX7_save 68 69 1 (.iastore) := ⟨by decide +kernel, rfl⟩
theorem d_X7_save_69 : kf_dq cX7_save 69 70 1 (.aload_n 1) := ⟨by decide +kernel, rfl⟩
theorem d_X7_save_70 : kf_dq cX7_save 70 71 1 (.iload_n 3) := ⟨by decide +kernel, rfl⟩
theorem d_X7_save_71 : kf_dq cX7_save 71 72 1 (.iconst 5) := ⟨by decide +kernel, rfl⟩
theorem d_X7_save_72 : kf_dq cX7_save 72 73 1 (.iadd) := ⟨by decide +kernel, rfl⟩
theorem d_X7_save_73 : kf_dq cX7_save 73 74 1 (.iconst 1) := ⟨by decide +kernel, rfl⟩
theorem d_X7_save_74 : kf_dq cX7_save 74 75 1 (.iadd) := ⟨by decide +kernel, rfl⟩
theorem d_X7_save_75 : kf_dq cX7_save 75 76 1 (.aload_n 0) := ⟨by decide +kernel, rfl⟩
theorem d_X7_save_76 : kf_dq cX7_save 76 79 3 (.getfield 41) := ⟨by decide +kernel, rfl⟩
theorem d_X7_save_79 : kf_dq cX7_save 79 80 1 (.iastore) := ⟨by decide +kernel, rfl⟩
theorem d_X7_save_80 : kf_dq cX7_save 80 81 1 (.return_) := ⟨by decide +kernel, rfl⟩
def f_X7_save_16_s (rec16 : Nat → Nat → Int32 → Int32 → kf_St → Option kf_St) (v0 : Nat) (v1 : Nat) (v2 : Int32) (v3 : Int32) (σ : kf_St) : Option kf_St :=
  if 6 ≤ v3 then
    kf_lt ((v2 + 54)) fun v3_2 =>
    if kf_cok 0 v3_2 5 (kf_ln (kf_rf v0 1)) (kf_ln v1) = true then
    kf_lt (kf_ci σ (kf_rf v0 1) v1 (Int32.toNatClampNeg 0) (Int32.toNatClampNeg v3_2) (Int32.toNatClampNeg 5)) fun σ_4 =>
    if kf_ix (v3_2 + 5) (kf_ln v1) = true then
    kf_lt (kf_wi σ_4 v1 (Int32.toNatClampNeg (v3_2 + 5)) (σ_4.1 v0 2)) fun σ_6 =>
    if kf_ix ((v3_2 + 5) + 1) (kf_ln v1) = true then
    kf_lt (kf_wi σ_6 v1 (Int32.toNatClampNeg ((v3_2 + 5) + 1)) (σ_6.1 v0 3)) fun σ_8 =>
    some σ_8
    else none
    else none
    else none
  else
    if kf_ix v3 (kf_ln (kf_rf v0 0)) = true then
    (f_X1_save (kf_rf (kf_rf v0 0) (Int32.toNatClampNeg v3)) v1 (v2 + (v3 * 9)) σ).bind fun q_10 =>
    kf_lt (v3 + 1) fun v3_11 =>
    rec16 v0 v1 v2 v3_11 q_10
    else none
def f_X7_save_16 : Nat → Nat → Nat → Int32 → Int32 → kf_St → Option kf_St
  | 0, _, _, _, _, _ => none
  | n + 1, v0, v1, v2, v3, σ => f_X7_save_16_s (f_X7_save_16 n) v0 v1 v2 v3 σ
set_option maxRecDepth 100000 in
set_option maxHeartbeats 4000000 in
theorem b_X7_save_16_s {X : kf_X} {G : kf_G} (rec16 : Nat → Nat → Int32 → Int32 → kf_St → Option kf_St) {q : kf_St} (E : kf_ok X G cX7_save RX7 4 none (2)) (hty : kf_wt G) (hrec16 : ∀ (v0 : Nat) (v1 : Nat) (v2 : Int32) (v3 : Int32) (k_v0 : kf_kd G v0 = 8) (k_v1 : kf_kd G v1 = 50) (σ : kf_St), rec16 v0 v1 v2 v3 σ = some q → kf_WA X G 4 (kf_Q X G none q) 16 [(0, .ref (kf_ad G v0)), (1, .ref (kf_ad G v1)), (2, .int v2), (3, .int v3)] [] σ) (v0 : Nat) (v1 : Nat) (v2 : Int32) (v3 : Int32) (k_v0 : kf_kd G v0 = 8) (k_v1 : kf_kd G v1 = 50) (σ : kf_St) (h : f_X7_save_16_s rec16 v0 v1 v2 v3 σ = some q) : kf_WA X G 4 (kf_Q X G none q) 16 [(0, .ref (kf_ad G v0)), (1, .ref (kf_ad G v1)), (2, .int v2), (3, .int v3)] [] σ := by
  unfold f_X7_save_16_s at h
  refine wa_iload_n 3 rfl E d_X7_save_16 ?_
  refine wa_bipush 6 bp_6 E d_X7_save_17 ?_
  refine wa_icmp_ge E d_X7_save_19 (fun c_1 => ?_) (fun c_1 => ?_)
  · replace h := kf_ift c_1 h
    refine wa_iload_n 2 rfl E d_X7_save_44 ?_
    refine wa_bipush 54 bp_54 E d_X7_save_45 ?_
    refine wa_iadd E d_X7_save_47 ?_
    obtain ⟨v3_2, ev3_2, h⟩ := kf_lte h
    refine wa_topi ev3_2 ?_
    refine wa_istore_n (lv' := [(3, .int v3_2), (0, .ref (kf_ad G v0)), (1, .ref (kf_ad G v1)), (2, .int v2)]) rfl (by decide) rfl E d_X7_save_48 ?_
    refine wa_aload_n 1 rfl E d_X7_save_49 ?_
    refine wa_getR fl_X7_18 k_v0 rfl E d_X7_save_50 ?_
    refine wa_iconst 0 ic_0 E d_X7_save_53 ?_
    refine wa_aload_n 2 rfl E d_X7_save_54 ?_
    refine wa_iload_n 0 rfl E d_X7_save_55 ?_
    refine wa_iconst 5 ic_5 E d_X7_save_56 ?_
    obtain ⟨g_3, h⟩ := kf_gd h
    obtain ⟨σ_4, eσ_4, h⟩ := kf_lte h
    refine wa_copyi cw_X7_51 (kf_wtf hty 1 49 k_v0 (by decide) rfl) k_v1 g_3 (Nat.le_of_ble_eq_true rfl) (Nat.le_of_ble_eq_true rfl) E d_X7_save_57 eσ_4 ?_
    refine wa_aload_n 2 rfl E d_X7_save_60 ?_
    refine wa_iload_n 0 rfl E d_X7_save_61 ?_
    refine wa_iconst 5 ic_5 E d_X7_save_62 ?_
    refine wa_iadd E d_X7_save_63 ?_
    refine wa_aload_n 1 rfl E d_X7_save_64 ?_
    refine wa_getI fl_X7_38 k_v0 rfl E d_X7_save_65 ?_
    obtain ⟨g_5, h⟩ := kf_gd h
    obtain ⟨σ_6, eσ_6, h⟩ := kf_lte h
    refine wa_iast k_v1 g_5 E d_X7_save_68 eσ_6 ?_
    refine wa_aload_n 2 rfl E d_X7_save_69 ?_
    refine wa_iload_n 0 rfl E d_X7_save_70 ?_
    refine wa_iconst 5 ic_5 E d_X7_save_71 ?_
    refine wa_iadd E d_X7_save_72 ?_
    refine wa_iconst 1 ic_1 E d_X7_save_73 ?_
    refine wa_iadd E d_X7_save_74 ?_
    refine wa_aload_n 1 rfl E d_X7_save_75 ?_
    refine wa_getI fl_X7_41 k_v0 rfl E d_X7_save_76 ?_
    obtain ⟨g_7, h⟩ := kf_gd h
    obtain ⟨σ_8, eσ_8, h⟩ := kf_lte h
    refine wa_iast k_v1 g_7 E d_X7_save_79 eσ_8 ?_
    cases h
    exact wa_vret E d_X7_save_80
  · replace h := kf_iff c_1 h
    refine wa_aload_n 0 rfl E d_X7_save_22 ?_
    refine wa_getR fl_X7_11 k_v0 rfl E d_X7_save_23 ?_
    refine wa_iload_n 3 rfl E d_X7_save_26 ?_
    obtain ⟨g_9, h⟩ := kf_gd h
    refine wa_aald (kf_wtf hty 0 53 k_v0 (by decide) rfl) g_9 E d_X7_save_27 ?_
    refine wa_aload_n 1 rfl E d_X7_save_28 ?_
    refine wa_iload_n 2 rfl E d_X7_save_29 ?_
    refine wa_iload_n 3 rfl E d_X7_save_30 ?_
    refine wa_bipush 9 bp_9 E d_X7_save_31 ?_
    refine wa_imul E d_X7_save_33 ?_
    refine wa_iadd E d_X7_save_34 ?_
    obtain ⟨q_10, hq_10, h⟩ := kf_bd h
    refine wa_callV (st2 := []) (c_X1_save hty (kf_rf (kf_rf v0 0) (Int32.toNatClampNeg v3)) v1 (v2 + (v3 * 9)) (kf_wta hty (kf_wtf hty 0 53 k_v0 (by decide) rfl) g_9) k_v1 σ hq_10) mv_X1_save ml_X7_57 (kf_wta hty (kf_wtf hty 0 53 k_v0 (by decide) rfl) g_9) rfl (Nat.le_of_ble_eq_true rfl) rfl (Nat.le_of_ble_eq_true rfl) E d_X7_save_35 rfl ?_
    obtain ⟨v3_11, ev3_11, h⟩ := kf_lte h
    refine wa_iinc (lv' := [(3, .int v3_11), (0, .ref (kf_ad G v0)), (1, .ref (kf_ad G v1)), (2, .int v2)]) v3_11 3 rfl (kf_inc ic_1 ev3_11) (by decide) rfl E d_X7_save_38 ?_
    refine wa_goto E d_X7_save_41 ?_
    refine wa_sub [1, 2, 3, 0] rfl ?_
    exact hrec16 v0 v1 v2 v3_11 k_v0 k_v1 q_10 h
theorem b_X7_save_16 {X : kf_X} {G : kf_G} {q : kf_St} (E : kf_ok X G cX7_save RX7 4 none (2)) (hty : kf_wt G) : ∀ (N : Nat) (v0 : Nat) (v1 : Nat) (v2 : Int32) (v3 : Int32) (k_v0 : kf_kd G v0 = 8) (k_v1 : kf_kd G v1 = 50) (σ : kf_St) (_ : f_X7_save_16 N v0 v1 v2 v3 σ = some q), kf_WA X G 4 (kf_Q X G none q) 16 [(0, .ref (kf_ad G v0)), (1, .ref (kf_ad G v1)), (2, .int v2), (3, .int v3)] [] σ
  | 0, _, _, _, _, _, _, _, h => by cases h
  | N + 1, v0, v1, v2, v3, k_v0, k_v1, σ, h => b_X7_save_16_s _ E hty (b_X7_save_16 E hty N) v0 v1 v2 v3 k_v0 k_v1 σ h
def f_X7_save (v0 : Nat) (v1 : Nat) (v2 : Int32) (σ : kf_St) : Option kf_St :=
  if v2 < 0 then
    some σ
  else
    if v2 ≤ ((nI (kf_ln v1)) - 61) then
      f_X7_save_16 kf_F v0 v1 v2 0 σ
    else
      some σ
set_option maxRecDepth 100000 in
set_option maxHeartbeats 4000000 in
theorem c_X7_save {G : kf_G} (hty : kf_wt G) (v0 : Nat) (v1 : Nat) (v2 : Int32) (k_v0 : kf_kd G v0 = 8) (k_v1 : kf_kd G v1 = 50) (σ : kf_St) {q : kf_St} (h : f_X7_save v0 v1 v2 σ = some q) : kf_Ct (2) yX7_save cX7_save 4 none G [.ref (kf_ad G v0), .ref (kf_ad G v1), .int v2] σ none q := by
  refine kf_Ct.of hty.1 (lv := [(0, .ref (kf_ad G v0)), (1, .ref (kf_ad G v1)), (2, .int v2)]) (by decide +kernel) rfl (Nat.le_of_ble_eq_true rfl) (fun X E => ?_)
  unfold f_X7_save at h
  refine wa_iload_n 2 rfl E d_X7_save_0 ?_
  refine wa_if_lt E d_X7_save_1 (fun c_1 => ?_) (fun c_1 => ?_)
  · replace h := kf_ift c_1 h
    cases h
    exact wa_vret E d_X7_save_13
  · replace h := kf_iff c_1 h
    refine wa_iload_n 2 rfl E d_X7_save_4 ?_
    refine wa_aload_n 1 rfl E d_X7_save_5 ?_
    refine wa_alen_i k_v1 E d_X7_save_6 ?_
    refine wa_bipush 61 bp_61 E d_X7_save_7 ?_
    refine wa_isub E d_X7_save_9 ?_
    refine wa_icmp_le E d_X7_save_10 (fun c_2 => ?_) (fun c_2 => ?_)
    · replace h := kf_ift c_2 h
      refine wa_iconst 0 ic_0 E d_X7_save_14 ?_
      refine wa_istore_n (lv' := [(3, .int 0), (0, .ref (kf_ad G v0)), (1, .ref (kf_ad G v1)), (2, .int v2)]) rfl (by decide) rfl E d_X7_save_15 ?_
      refine wa_sub [1, 2, 3, 0] rfl ?_
      exact b_X7_save_16 E hty kf_F v0 v1 v2 0 k_v0 k_v1 σ h
    · replace h := kf_iff c_2 h
      cases h
      exact wa_vret E d_X7_save_13
/-! X3_remember -/
theorem d_X3_remember_0 : kf_dq cX3_remember 0 1 1 (.aload_n 1) := ⟨by decide +kernel, rfl⟩
theorem d_X3_remember_1 : kf_dq cX3_remember 1 2 1 (.aload_n 0) := ⟨by decide +kernel, rfl⟩
theorem d_X3_remember_2 : kf_dq cX3_remember 2 5 3 (.getfield 11) := ⟨by decide +kernel, rfl⟩
theorem d_X3_remember_5 : kf_dq cX3_remember 5 6 1 (.aload_n 0) := ⟨by decide +kernel, rfl⟩
theorem d_X3_remember_6 : kf_dq cX3_remember 6 9 3 (.getfield 25) := ⟨by decide +kernel, rfl⟩
theorem d_X3_remember_9 : kf_dq cX3_remember 9 11 2 (.bipush 61) := ⟨by decide +kernel, rfl⟩
theorem d_X3_remember_11 : kf_dq cX3_remember 11 12 1 (.imul) := ⟨by decide +kernel, rfl⟩
theorem d_X3_remember_12 : kf_dq cX3_remember 12 15 3 (.invokevirtual 28) := ⟨by decide +kernel, rfl⟩
theorem d_X3_remember_15 : kf_dq cX3_remember 15 16 1 (.aload_n 0) := ⟨by decide +kernel, rfl⟩
theorem d_X3_remember_16 : kf_dq cX3_remember 16 17 1 (.aload_n 0) := ⟨by decide +kernel, rfl⟩
theorem d_X3_remember_17 : kf_dq cX3_remember 17 20 3 (.getfield 25) := ⟨by decide +kernel, rfl⟩
theorem d_X3_remember_20 : kf_dq cX3_remember 20 21 1 (.iconst 1) := ⟨by decide +kernel, rfl⟩
theorem d_X3_remember_21 : kf_dq cX3_remember 21 22 1 (.iadd) := ⟨by decide +kernel, rfl⟩
theorem d_X3_remember_22 : kf_dq cX3_remember 22 24 2 (.bipush 40) := ⟨by decide +kernel, rfl⟩
theorem d_X3_remember_24 : kf_dq cX3_remember 24 25 1 (.irem) := ⟨by decide +kernel, rfl⟩
theorem d_X3_remember_25 : kf_dq cX3_remember 25 28 3 (.putfield 25) := ⟨by decide +kernel, rfl⟩
theorem d_X3_remember_28 : kf_dq cX3_remember 28 29 1 (.aload_n 0) := ⟨by decide +kernel, rfl⟩
theorem d_X3_remember_29 : kf_dq cX3_remember 29 30 1 (.aload_n 0) := ⟨by decide +kernel, rfl⟩
theorem d_X3_remember_30 : kf_dq cX3_remember 30 33 3 (.getfield 18) := ⟨by decide +kernel, rfl⟩
theorem d_X3_remember_33 : kf_dq cX3_remember 33 34 1 (.iconst 1) := ⟨by decide +kernel, rfl⟩
theorem d_X3_remember_34 : kf_dq cX3_remember 34 35 1 (.iadd) := ⟨by decide +kernel, rfl⟩
theorem d_X3_remember_35 : kf_dq cX3_remember 35 37 2 (.bipush 40) := ⟨by decide +kernel, rfl⟩
theorem d_X3_remember_37 : kf_dq cX3_remember 37 40 3 (.invokestatic 32) := ⟨by decide +kernel, rfl⟩
theorem d_X3_remember_40 : kf_dq cX3_remember 40 43 3 (.putfield 18) := ⟨by decide +kernel, rfl⟩
theorem d_X3_remember_43 : kf_dq cX3_remember 43 44 1 (.return_) := ⟨by decide +kernel, rfl⟩
def f_X3_remember (v0 : Nat) (v1 : Nat) (σ : kf_St) : Option kf_St :=
  (f_X7_save v1 (kf_rf v0 3) ((σ.1 v0 2) * 61) σ).bind fun q_1 =>
  if (40 : Int32) = 0 then none else
  kf_lt (kf_wi q_1 v0 2 (((q_1.1 v0 2) + 1) - ((q_1.1 v0 2) + 1) / 40 * 40)) fun σ_3 =>
  kf_lt (if 40 < ((σ_3.1 v0 0) + 1) then 40 else ((σ_3.1 v0 0) + 1)) fun x_4 =>
  kf_lt (kf_wi σ_3 v0 0 x_4) fun σ_5 =>
  some σ_5
set_option maxRecDepth 100000 in
set_option maxHeartbeats 4000000 in
theorem c_X3_remember {G : kf_G} (hty : kf_wt G) (v0 : Nat) (v1 : Nat) (k_v0 : kf_kd G v0 = 4) (k_v1 : kf_kd G v1 = 8) (σ : kf_St) {q : kf_St} (h : f_X3_remember v0 v1 σ = some q) : kf_Ct (3) yX3_remember cX3_remember 2 none G [.ref (kf_ad G v0), .ref (kf_ad G v1)] σ none q := by
  refine kf_Ct.of hty.1 (lv := [(0, .ref (kf_ad G v0)), (1, .ref (kf_ad G v1))]) (by decide +kernel) rfl (Nat.le_of_ble_eq_true rfl) (fun X E => ?_)
  unfold f_X3_remember at h
  refine wa_aload_n 1 rfl E d_X3_remember_0 ?_
  refine wa_aload_n 0 rfl E d_X3_remember_1 ?_
  refine wa_getR fl_X3_11 k_v0 rfl E d_X3_remember_2 ?_
  refine wa_aload_n 0 rfl E d_X3_remember_5 ?_
  refine wa_getI fl_X3_25 k_v0 rfl E d_X3_remember_6 ?_
  refine wa_bipush 61 bp_61 E d_X3_remember_9 ?_
  refine wa_imul E d_X3_remember_11 ?_
  obtain ⟨q_1, hq_1, h⟩ := kf_bd h
  refine wa_callV (st2 := []) (c_X7_save hty v1 (kf_rf v0 3) ((σ.1 v0 2) * 61) k_v1 (kf_wtf hty 3 49 k_v0 (by decide) rfl) σ hq_1) mv_X7_save ml_X3_28 k_v1 rfl (Nat.le_of_ble_eq_true rfl) rfl (Nat.le_of_ble_eq_true rfl) E d_X3_remember_12 rfl ?_
  refine wa_aload_n 0 rfl E d_X3_remember_15 ?_
  refine wa_aload_n 0 rfl E d_X3_remember_16 ?_
  refine wa_getI fl_X3_25 k_v0 rfl E d_X3_remember_17 ?_
  refine wa_iconst 1 ic_1 E d_X3_remember_20 ?_
  refine wa_iadd E d_X3_remember_21 ?_
  refine wa_bipush 40 bp_40 E d_X3_remember_22 ?_
  obtain ⟨g_2, h⟩ := kf_gn h
  refine wa_irem g_2 E d_X3_remember_24 ?_
  obtain ⟨σ_3, eσ_3, h⟩ := kf_lte h
  refine wa_putI fl_X3_25 fp_3_2 k_v0 rfl (by decide) rfl rfl E d_X3_remember_25 eσ_3 ?_
  refine wa_aload_n 0 rfl E d_X3_remember_28 ?_
  refine wa_aload_n 0 rfl E d_X3_remember_29 ?_
  refine wa_getI fl_X3_18 k_v0 rfl E d_X3_remember_30 ?_
  refine wa_iconst 1 ic_1 E d_X3_remember_33 ?_
  refine wa_iadd E d_X3_remember_34 ?_
  refine wa_bipush 40 bp_40 E d_X3_remember_35 ?_
  refine wa_mmin ml_X3_32 ms_min mini mc_min (Nat.le_of_ble_eq_true rfl) (Nat.le_of_ble_eq_true rfl) E d_X3_remember_37 ?_
  obtain ⟨x_4, ex_4, h⟩ := kf_lte h
  refine wa_topi ex_4 ?_
  obtain ⟨σ_5, eσ_5, h⟩ := kf_lte h
  refine wa_putI fl_X3_18 fp_3_0 k_v0 rfl (by decide) rfl rfl E d_X3_remember_40 eσ_5 ?_
  cases h
  exact wa_vret E d_X3_remember_43
/-! X7_load -/
theorem d_X7_load_0 : kf_dq cX7_load 0 1 1 (.iload_n 2) := ⟨by decide +kernel, rfl⟩
theorem d_X7_load_1 : kf_dj cX7_load 1 4 13 (.ifCond .lt) := ⟨12, by decide +kernel, rfl, by decide⟩
theorem d_X7_load_4 : kf_dq cX7_load 4 5 1 (.iload_n 2) := ⟨by decide +kernel, rfl⟩
theorem d_X7_load_5 : kf_dq cX7_load 5 6 1 (.aload_n 1) := ⟨by decide +kernel, rfl⟩
theorem d_X7_load_6 : kf_dq cX7_load 6 7 1 (.arraylength) := ⟨by decide +kernel, rfl⟩
theorem d_X7_load_7 : kf_dq cX7_load 7 9 2 (.bipush 61) := ⟨by decide +kernel, rfl⟩
theorem d_X7_load_9 : kf_dq cX7_load 9 10 1 (.isub) := ⟨by decide +kernel, rfl⟩
theorem d_X7_load_10 : kf_dj cX7_load 10 13 14 (.if_icmp .le) := ⟨4, by decide +kernel, rfl, by decide⟩
theorem d_X7_load_13 : kf_dq cX7_load 13 14 1 (.return_) := ⟨by decide +kernel, rfl⟩
theorem d_X7_load_14 : kf_dq cX7_load 14 15 1 (.iconst 0) := ⟨by decide +kernel, rfl⟩
theorem d_X7_load_15 : kf_dq cX7_load 15 16 1 (.istore_n 3) := ⟨by decide +kernel, rfl⟩
theorem d_X7_load_16 : kf_dq cX7_load 16 17 1 (.iload_n 3) := ⟨by decide +kernel, rfl⟩
theorem d_X7_load_17 : kf_dq cX7_load 17 19 2 (.bipush 6) := ⟨by decide +kernel, rfl⟩
theorem d_X7_load_19 : kf_dj cX7_load 19 22 44 (.if_icmp .ge) := ⟨25, by decide +kernel, rfl, by decide⟩
theorem d_X7_load_22 : kf_dq cX7_load 22 23 1 (.aload_n 0) := ⟨by decide +kernel, rfl⟩
theorem d_X7_load_23 : kf_dq cX7_load 23 26 3 (.getfield 11) := ⟨by decide +kernel, rfl⟩
theorem d_X7_load_26 : kf_dq cX7_load 26 27 1 (.iload_n 3) := ⟨by decide +kernel, rfl⟩
theorem d_X7_load_27 : kf_dq cX7_load 27 28 1 (.aaload) := ⟨by decide +kernel, rfl⟩
theorem d_X7_load_28 : kf_dq cX7_load 28 29 1 (.aload_n 1) := ⟨by decide +kernel, rfl⟩
theorem d_X7_load_29 : kf_dq cX7_load 29 30 1 (.iload_n 2) := ⟨by decide +kernel, rfl⟩
theorem d_X7_load_30 : kf_dq cX7_load 30 31 1 (.iload_n 3) := ⟨by decide +kernel, rfl⟩
theorem d_X7_load_31 : kf_dq cX7_load 31 33 2 (.bipush 9) := ⟨by decide +kernel, rfl⟩
theorem d_X7_load_33 : kf_dq cX7_load 33 34 1 (.imul) := ⟨by decide +kernel, rfl⟩
theorem d_X7_load_34 : kf_dq cX7_load 34 35 1 (.iadd) := ⟨by decide +kernel, rfl⟩
theorem d_X7_load_35 : kf_dq cX7_load 35 38 3 (.invokevirtual 60) := ⟨by decide +kernel, rfl⟩
theorem d_X7_load_38 : kf_dq cX7_load 38 41 3 (.iinc 3 1) := ⟨by decide +kernel, rfl⟩
theorem d_X7_load_41 : kf_dj cX7_load 41 44 16 .goto := ⟨(-25), by decide +kernel, rfl, by decide⟩
theorem d_X7_load_44 : kf_dq cX7_load 44 45 1 (.iload_n 2) := ⟨by decide +kernel, rfl⟩
theorem d_X7_load_45 : kf_dq cX7_load 45 47 2 (.bipush 54) := ⟨by decide +kernel, rfl⟩
theorem d_X7_load_47 : kf_dq cX7_load 47 48 1 (.iadd) := ⟨by decide +kernel, rfl⟩
theorem d_X7_load_48 : kf_dq cX7_load 48 49 1 (.istore_n 3) := ⟨by decide +kernel, rfl⟩
theorem d_X7_load_49 : kf_dq cX7_load 49 50 1 (.aload_n 1) := ⟨by decide +kernel, rfl⟩
theorem d_X7_load_50 : kf_dq cX7_load 50 51 1 (.iload_n 3) := ⟨by decide +kernel, rfl⟩
theorem d_X7_load_51 : kf_dq cX7_load 51 52 1 (.aload_n 0) := ⟨by decide +kernel, rfl⟩
theorem d_X7_load_52 : kf_dq cX7_load 52 55 3 (.getfield 18) := ⟨by decide +kernel, rfl⟩
theorem d_X7_load_55 : kf_dq cX7_load 55 56 1 (.iconst 0) := ⟨by decide +kernel, rfl⟩
theorem d_X7_load_56 : kf_dq cX7_load 56 57 1 (.iconst 5) := ⟨by decide +kernel, rfl⟩
theorem d_X7_load_57 : kf_dq cX7_load 57 60 3 (.invokestatic 51) := ⟨by decide +kernel, rfl⟩
theorem d_X7_load_60 : kf_dq cX7_load 60 61 1 (.aload_n 0) := ⟨by decide +kernel, rfl⟩
theorem d_X7_load_61 : kf_dq cX7_load 61 62 1 (.aload_n 1) := ⟨by decide +kernel, rfl⟩
theorem d_X7_load_62 : kf_dq cX7_load 62 63 1 (.iload_n 3) := ⟨by decide +kernel, rfl⟩
theorem d_X7_load_63 : kf_dq cX7_load 63 64 1 (.iconst 5) := ⟨by decide +kernel, rfl⟩
theorem d_X7_load_64 : kf_dq cX7_load 64 65 1 (.iadd) := ⟨by decide +kernel, rfl⟩
theorem d_X7_load_65 : kf_dq cX7_load 65 66 1 (.iaload) := ⟨by decide +kernel, rfl⟩
theorem d_X7_load_66 : kf_dq cX7_load 66 69 3 (.putfield 38) := ⟨by decide +kernel, rfl⟩
theorem d_X7_load_69 : kf_dq cX7_load 69 70 1 (.aload_n 0) := ⟨by decide +kernel, rfl⟩
theorem d_X7_load_70 : kf_dq cX7_load 70 71 1 (.aload_n 1) := ⟨by decide +kernel, rfl⟩
theorem d_X7_load_71 : kf_dq cX7_load 71 72 1 (.iload_n 3) := ⟨by decide +kernel, rfl⟩
theorem d_X7_load_72 : kf_dq cX7_load 72 73 1 (.iconst 5) := ⟨by decide +kernel, rfl⟩
theorem d_X7_load_73 : kf_dq cX7_load 73 74 1 (.iadd) := ⟨by decide +kernel, rfl⟩
theorem d_X7_load_74 : kf_dq cX7_load 74 75 1 (.iconst 1) := ⟨by decide +kernel, rfl⟩
theorem d_X7_load_75 : kf_dq cX7_load 75 76 1 (.iadd) := ⟨by decide +kernel, rfl⟩
theorem d_X7_load_76 : kf_dq cX7_load 76 77 1 (.iaload) := ⟨by decide +kernel, rfl⟩
theorem d_X7_load_77 : kf_dq cX7_load 77 80 3 (.putfield 41) := ⟨by decide +kernel, rfl⟩
theorem d_X7_load_80 : kf_dq cX7_load 80 81 1 (.return_) := ⟨by decide +kernel, rfl⟩
def f_X7_load_16_s (rec16 : Nat → Nat → Int32 → Int32 → kf_St → Option kf_St) (v0 : Nat) (v1 : Nat) (v2 : Int32) (v3 : Int32) (σ : kf_St) : Option kf_St :=
  if 6 ≤ v3 then
    kf_lt ((v2 + 54)) fun v3_2 =>
    if kf_cok v3_2 0 5 (kf_ln v1) (kf_ln (kf_rf v0 1)) = true then
    kf_lt (kf_ci σ v1 (kf_rf v0 1) (Int32.toNatClampNeg v3_2) (Int32.toNatClampNeg 0) (Int32.toNatClampNeg 5)) fun σ_4 =>
    if kf_ix (v3_2 + 5) (kf_ln v1) = true then
    kf_lt (kf_wi σ_4 v0 2 (σ_4.1 v1 (Int32.toNatClampNeg (v3_2 + 5)))) fun σ_6 =>
    if kf_ix ((v3_2 + 5) + 1) (kf_ln v1) = true then
    kf_lt (kf_wi σ_6 v0 3 (σ_6.1 v1 (Int32.toNatClampNeg ((v3_2 + 5) + 1)))) fun σ_8 =>
    some σ_8
    else none
    else none
    else none
  else
    if kf_ix v3 (kf_ln (kf_rf v0 0)) = true then
    (f_X1_load (kf_rf (kf_rf v0 0) (Int32.toNatClampNeg v3)) v1 (v2 + (v3 * 9)) σ).bind fun q_10 =>
    kf_lt (v3 + 1) fun v3_11 =>
    rec16 v0 v1 v2 v3_11 q_10
    else none
def f_X7_load_16 : Nat → Nat → Nat → Int32 → Int32 → kf_St → Option kf_St
  | 0, _, _, _, _, _ => none
  | n + 1, v0, v1, v2, v3, σ => f_X7_load_16_s (f_X7_load_16 n) v0 v1 v2 v3 σ
set_option maxRecDepth 100000 in
set_option maxHeartbeats 4000000 in
theorem b_X7_load_16_s {X : kf_X} {G : kf_G} (rec16 : Nat → Nat → Int32 → Int32 → kf_St → Option kf_St) {q : kf_St} (E : kf_ok X G cX7_load RX7 4 none (2)) (hty : kf_wt G) (hrec16 : ∀ (v0 : Nat) (v1 : Nat) (v2 : Int32) (v3 : Int32) (k_v0 : kf_kd G v0 = 8) (k_v1 : kf_kd G v1 = 50) (σ : kf_St), rec16 v0 v1 v2 v3 σ = some q → kf_WA X G 4 (kf_Q X G none q) 16 [(0, .ref (kf_ad G v0)), (1, .ref (kf_ad G v1)), (2, .int v2), (3, .int v3)] [] σ) (v0 : Nat) (v1 : Nat) (v2 : Int32) (v3 : Int32) (k_v0 : kf_kd G v0 = 8) (k_v1 : kf_kd G v1 = 50) (σ : kf_St) (h : f_X7_load_16_s rec16 v0 v1 v2 v3 σ = some q) : kf_WA X G 4 (kf_Q X G none q) 16 [(0, .ref (kf_ad G v0)), (1, .ref (kf_ad G v1)), (2, .int v2), (3, .int v3)] [] σ := by
  unfold f_X7_load_16_s at h
  refine wa_iload_n 3 rfl E d_X7_load_16 ?_
  refine wa_bipush 6 bp_6 E d_X7_load_17 ?_
  refine wa_icmp_ge E d_X7_load_19 (fun c_1 => ?_) (fun c_1 => ?_)
  · replace h := kf_ift c_1 h
    refine wa_iload_n 2 rfl E d_X7_load_44 ?_
    refine wa_bipush 54 bp_54 E d_X7_load_45 ?_
    refine wa_iadd E d_X7_load_47 ?_
    obtain ⟨v3_2, ev3_2, h⟩ := kf_lte h
    refine wa_topi ev3_2 ?_
    refine wa_istore_n (lv' := [(3, .int v3_2), (0, .ref (kf_ad G v0)), (1, .ref (kf_ad G v1)), (2, .int v2)]) rfl (by decide) rfl E d_X7_load_48 ?_
    refine wa_aload_n 2 rfl E d_X7_load_49 ?_
    refine wa_iload_n 0 rfl E d_X7_load_50 ?_
    refine wa_aload_n 1 rfl E d_X7_load_51 ?_
    refine wa_getR fl_X7_18 k_v0 rfl E d_X7_load_52 ?_
    refine wa_iconst 0 ic_0 E d_X7_load_55 ?_
    refine wa_iconst 5 ic_5 E d_X7_load_56 ?_
    obtain ⟨g_3, h⟩ := kf_gd h
    obtain ⟨σ_4, eσ_4, h⟩ := kf_lte h
    refine wa_copyi cw_X7_51 k_v1 (kf_wtf hty 1 49 k_v0 (by decide) rfl) g_3 (Nat.le_of_ble_eq_true rfl) (Nat.le_of_ble_eq_true rfl) E d_X7_load_57 eσ_4 ?_
    refine wa_aload_n 1 rfl E d_X7_load_60 ?_
    refine wa_aload_n 2 rfl E d_X7_load_61 ?_
    refine wa_iload_n 0 rfl E d_X7_load_62 ?_
    refine wa_iconst 5 ic_5 E d_X7_load_63 ?_
    refine wa_iadd E d_X7_load_64 ?_
    obtain ⟨g_5, h⟩ := kf_gd h
    refine wa_iald k_v1 g_5 E d_X7_load_65 ?_
    obtain ⟨σ_6, eσ_6, h⟩ := kf_lte h
    refine wa_putI fl_X7_38 fp_7_2 k_v0 rfl (by decide) rfl rfl E d_X7_load_66 eσ_6 ?_
    refine wa_aload_n 1 rfl E d_X7_load_69 ?_
    refine wa_aload_n 2 rfl E d_X7_load_70 ?_
    refine wa_iload_n 0 rfl E d_X7_load_71 ?_
    refine wa_iconst 5 ic_5 E d_X7_load_72 ?_
    refine wa_iadd E d_X7_load_73 ?_
    refine wa_iconst 1 ic_1 E d_X7_load_74 ?_
    refine wa_iadd E d_X7_load_75 ?_
    obtain ⟨g_7, h⟩ := kf_gd h
    refine wa_iald k_v1 g_7 E d_X7_load_76 ?_
    obtain ⟨σ_8, eσ_8, h⟩ := kf_lte h
    refine wa_putI fl_X7_41 fp_7_3 k_v0 rfl (by decide) rfl rfl E d_X7_load_77 eσ_8 ?_
    cases h
    exact wa_vret E d_X7_load_80
  · replace h := kf_iff c_1 h
    refine wa_aload_n 0 rfl E d_X7_load_22 ?_
    refine wa_getR fl_X7_11 k_v0 rfl E d_X7_load_23 ?_
    refine wa_iload_n 3 rfl E d_X7_load_26 ?_
    obtain ⟨g_9, h⟩ := kf_gd h
    refine wa_aald (kf_wtf hty 0 53 k_v0 (by decide) rfl) g_9 E d_X7_load_27 ?_
    refine wa_aload_n 1 rfl E d_X7_load_28 ?_
    refine wa_iload_n 2 rfl E d_X7_load_29 ?_
    refine wa_iload_n 3 rfl E d_X7_load_30 ?_
    refine wa_bipush 9 bp_9 E d_X7_load_31 ?_
    refine wa_imul E d_X7_load_33 ?_
    refine wa_iadd E d_X7_load_34 ?_
    obtain ⟨q_10, hq_10, h⟩ := kf_bd h
    refine wa_callV (st2 := []) (c_X1_load hty (kf_rf (kf_rf v0 0) (Int32.toNatClampNeg v3)) v1 (v2 + (v3 * 9)) (kf_wta hty (kf_wtf hty 0 53 k_v0 (by decide) rfl) g_9) k_v1 σ hq_10) mv_X1_load ml_X7_60 (kf_wta hty (kf_wtf hty 0 53 k_v0 (by decide) rfl) g_9) rfl (Nat.le_of_ble_eq_true rfl) rfl (Nat.le_of_ble_eq_true rfl) E d_X7_load_35 rfl ?_
    obtain ⟨v3_11, ev3_11, h⟩ := kf_lte h
    refine wa_iinc (lv' := [(3, .int v3_11), (0, .ref (kf_ad G v0)), (1, .ref (kf_ad G v1)), (2, .int v2)]) v3_11 3 rfl (kf_inc ic_1 ev3_11) (by decide) rfl E d_X7_load_38 ?_
    refine wa_goto E d_X7_load_41 ?_
    refine wa_sub [1, 2, 3, 0] rfl ?_
    exact hrec16 v0 v1 v2 v3_11 k_v0 k_v1 q_10 h
theorem b_X7_load_16 {X : kf_X} {G : kf_G} {q : kf_St} (E : kf_ok X G cX7_load RX7 4 none (2)) (hty : kf_wt G) : ∀ (N : Nat) (v0 : Nat) (v1 : Nat) (v2 : Int32) (v3 : Int32) (k_v0 : kf_kd G v0 = 8) (k_v1 : kf_kd G v1 = 50) (σ : kf_St) (_ : f_X7_load_16 N v0 v1 v2 v3 σ = some q), kf_WA X G 4 (kf_Q X G none q) 16 [(0, .ref (kf_ad G v0)), (1, .ref (kf_ad G v1)), (2, .int v2), (3, .int v3)] [] σ
  | 0, _, _, _, _, _, _, _, h => by cases h
  | N + 1, v0, v1, v2, v3, k_v0, k_v1, σ, h => b_X7_load_16_s _ E hty (b_X7_load_16 E hty N) v0 v1 v2 v3 k_v0 k_v1 σ h
def f_X7_load (v0 : Nat) (v1 : Nat) (v2 : Int32) (σ : kf_St) : Option kf_St :=
  if v2 < 0 then
    some σ
  else
    if v2 ≤ ((nI (kf_ln v1)) - 61) then
      f_X7_load_16 kf_F v0 v1 v2 0 σ
    else
      some σ
set_option maxRecDepth 100000 in
set_option maxHeartbeats 4000000 in
theorem c_X7_load {G : kf_G} (hty : kf_wt G) (v0 : Nat) (v1 : Nat) (v2 : Int32) (k_v0 : kf_kd G v0 = 8) (k_v1 : kf_kd G v1 = 50) (σ : kf_St) {q : kf_St} (h : f_X7_load v0 v1 v2 σ = some q) : kf_Ct (2) yX7_load cX7_load 4 none G [.ref (kf_ad G v0), .ref (kf_ad G v1), .int v2] σ none q := by
  refine kf_Ct.of hty.1 (lv := [(0, .ref (kf_ad G v0)), (1, .ref (kf_ad G v1)), (2, .int v2)]) (by decide +kernel) rfl (Nat.le_of_ble_eq_true rfl) (fun X E => ?_)
  unfold f_X7_load at h
  refine wa_iload_n 2 rfl E d_X7_load_0 ?_
  refine wa_if_lt E d_X7_load_1 (fun c_1 => ?_) (fun c_1 => ?_)
  · replace h := kf_ift c_1 h
    cases h
    exact wa_vret E d_X7_load_13
  · replace h := kf_iff c_1 h
    refine wa_iload_n 2 rfl E d_X7_load_4 ?_
    refine wa_aload_n 1 rfl E d_X7_load_5 ?_
    refine wa_alen_i k_v1 E d_X7_load_6 ?_
    refine wa_bipush 61 bp_61 E d_X7_load_7 ?_
    refine wa_isub E d_X7_load_9 ?_
    refine wa_icmp_le E d_X7_load_10 (fun c_2 => ?_) (fun c_2 => ?_)
    · replace h := kf_ift c_2 h
      refine wa_iconst 0 ic_0 E d_X7_load_14 ?_
      refine wa_istore_n (lv' := [(3, .int 0), (0, .ref (kf_ad G v0)), (1, .ref (kf_ad G v1)), (2, .int v2)]) rfl (by decide) rfl E d_X7_load_15 ?_
      refine wa_sub [1, 2, 3, 0] rfl ?_
      exact b_X7_load_16 E hty kf_F v0 v1 v2 0 k_v0 k_v1 σ h
    · replace h := kf_iff c_2 h
      cases h
      exact wa_vret E d_X7_load_13
/-! X3_takeBack -/
theorem d_X3_takeBack_0 : kf_dq cX3_takeBack 0 1 1 (.aload_n 0) := ⟨by decide +kernel, rfl⟩
theorem d_X3_takeBack_1 : kf_dq cX3_takeBack 1 4 3 (.getfield 18) := ⟨by decide +kernel, rfl⟩
theorem d_X3_takeBack_4 : kf_dj cX3_takeBack 4 7 9 (.ifCond .ne) := ⟨5, by decide +kernel, rfl, by decide⟩
theorem d_X3_takeBack_7 : kf_dq cX3_takeBack 7 8 1 (.iconst 0) := ⟨by decide +kernel, rfl⟩
theorem d_X3_takeBack_8 : kf_dq cX3_takeBack 8 9 1 (.ireturn) := ⟨by decide +kernel, rfl⟩
theorem d_X3_takeBack_9 : kf_dq cX3_takeBack 9 10 1 (.aload_n 0) := ⟨by decide +kernel, rfl⟩
theorem d_X3_takeBack_10 : kf_dq cX3_takeBack 10 11 1 (.aload_n 0) := ⟨by decide +kernel, rfl⟩
theorem d_X3_takeBack_11 : kf_dq cX3_takeBack 11 14 3 (.getfield 25) := ⟨by decide +kernel, rfl⟩
theorem d_X3_takeBack_14 : kf_dq cX3_takeBack 14 16 2 (.bipush 40) := ⟨by decide +kernel, rfl⟩
theorem d_X3_takeBack_16 : kf_dq cX3_takeBack 16 17 1 (.iadd) := ⟨by decide +kernel, rfl⟩
theorem d_X3_takeBack_17 : kf_dq cX3_takeBack 17 18 1 (.iconst 1) := ⟨by decide +kernel, rfl⟩
theorem d_X3_takeBack_18 : kf_dq cX3_takeBack 18 19 1 (.isub) := ⟨by decide +kernel, rfl⟩
theorem d_X3_takeBack_19 : kf_dq cX3_takeBack 19 21 2 (.bipush 40) := ⟨by decide +kernel, rfl⟩
theorem d_X3_takeBack_21 : kf_dq cX3_takeBack 21 22 1 (.irem) := ⟨by decide +kernel, rfl⟩
theorem d_X3_takeBack_22 : kf_dq cX3_takeBack 22 25 3 (.putfield 25) := ⟨by decide +kernel, rfl⟩
theorem d_X3_takeBack_25 : kf_dq cX3_takeBack 25 26 1 (.aload_n 0) := ⟨by decide +kernel, rfl⟩
theorem d_X3_takeBack_26 : kf_dq cX3_takeBack 26 27 1 (.dup) := ⟨by decide +kernel, rfl⟩
theorem d_X3_takeBack_27 : kf_dq cX3_takeBack 27 30 3 (.getfield 18) := ⟨by decide +kernel, rfl⟩
theorem d_X3_takeBack_30 : kf_dq cX3_takeBack 30 31 1 (.iconst 1) := ⟨by decide +kernel, rfl⟩
theorem d_X3_takeBack_31 : kf_dq cX3_takeBack 31 32 1 (.isub) := ⟨by decide +kernel, rfl⟩
theorem d_X3_takeBack_32 : kf_dq cX3_takeBack 32 35 3 (.putfield 18) := ⟨by decide +kernel, rfl⟩
theorem d_X3_takeBack_35 : kf_dq cX3_takeBack 35 36 1 (.aload_n 1) := ⟨by decide +kernel, rfl⟩
theorem d_X3_takeBack_36 : kf_dq cX3_takeBack 36 37 1 (.aload_n 0) := ⟨by decide +kernel, rfl⟩
theorem d_X3_takeBack_37 : kf_dq cX3_takeBack 37 40 3 (.getfield 11) := ⟨by decide +kernel, rfl⟩
theorem d_X3_takeBack_40 : kf_dq cX3_takeBack 40 41 1 (.aload_n 0) := ⟨by decide +kernel, rfl⟩
theorem d_X3_takeBack_41 : kf_dq cX3_takeBack 41 44 3 (.getfield 25) := ⟨by decide +kernel, rfl⟩
theorem d_X3_takeBack_44 : kf_dq cX3_takeBack 44 46 2 (.bipush 61) := ⟨by decide +kernel, rfl⟩
theorem d_X3_takeBack_46 : kf_dq cX3_takeBack 46 47 1 (.imul) := ⟨by decide +kernel, rfl⟩
theorem d_X3_takeBack_47 : kf_dq cX3_takeBack 47 50 3 (.invokevirtual 38) := ⟨by decide +kernel, rfl⟩
theorem d_X3_takeBack_50 : kf_dq cX3_takeBack 50 51 1 (.iconst 1) := ⟨by decide +kernel, rfl⟩
theorem d_X3_takeBack_51 : kf_dq cX3_takeBack 51 52 1 (.ireturn) := ⟨by decide +kernel, rfl⟩
def f_X3_takeBack (v0 : Nat) (v1 : Nat) (σ : kf_St) : Option (Int32 × kf_St) :=
  if (σ.1 v0 0) = 0 then
    some (0, σ)
  else
    if (40 : Int32) = 0 then none else
    kf_lt (kf_wi σ v0 2 ((((σ.1 v0 2) + 40) - 1) - (((σ.1 v0 2) + 40) - 1) / 40 * 40)) fun σ_3 =>
    kf_lt (kf_wi σ_3 v0 0 ((σ_3.1 v0 0) - 1)) fun σ_4 =>
    (f_X7_load v1 (kf_rf v0 3) ((σ_4.1 v0 2) * 61) σ_4).bind fun q_5 =>
    some (1, q_5)
set_option maxRecDepth 100000 in
set_option maxHeartbeats 4000000 in
theorem c_X3_takeBack {G : kf_G} (hty : kf_wt G) (v0 : Nat) (v1 : Nat) (k_v0 : kf_kd G v0 = 4) (k_v1 : kf_kd G v1 = 8) (σ : kf_St) {q : (Int32 × kf_St)} (h : f_X3_takeBack v0 v1 σ = some q) : kf_Ct (3) yX3_takeBack cX3_takeBack 2 (some .boolean) G [.ref (kf_ad G v0), .ref (kf_ad G v1)] σ (some (.int q.1)) q.2 := by
  refine kf_Ct.of hty.1 (lv := [(0, .ref (kf_ad G v0)), (1, .ref (kf_ad G v1))]) (by decide +kernel) rfl (Nat.le_of_ble_eq_true rfl) (fun X E => ?_)
  unfold f_X3_takeBack at h
  refine wa_aload_n 0 rfl E d_X3_takeBack_0 ?_
  refine wa_getI fl_X3_18 k_v0 rfl E d_X3_takeBack_1 ?_
  refine wa_if_ne E d_X3_takeBack_4 (fun c_1 => ?_) (fun c_1 => ?_)
  · replace h := kf_iff c_1 h
    refine wa_aload_n 0 rfl E d_X3_takeBack_9 ?_
    refine wa_aload_n 0 rfl E d_X3_takeBack_10 ?_
    refine wa_getI fl_X3_25 k_v0 rfl E d_X3_takeBack_11 ?_
    refine wa_bipush 40 bp_40 E d_X3_takeBack_14 ?_
    refine wa_iadd E d_X3_takeBack_16 ?_
    refine wa_iconst 1 ic_1 E d_X3_takeBack_17 ?_
    refine wa_isub E d_X3_takeBack_18 ?_
    refine wa_bipush 40 bp_40 E d_X3_takeBack_19 ?_
    obtain ⟨g_2, h⟩ := kf_gn h
    refine wa_irem g_2 E d_X3_takeBack_21 ?_
    obtain ⟨σ_3, eσ_3, h⟩ := kf_lte h
    refine wa_putI fl_X3_25 fp_3_2 k_v0 rfl (by decide) rfl rfl E d_X3_takeBack_22 eσ_3 ?_
    refine wa_aload_n 0 rfl E d_X3_takeBack_25 ?_
    refine wa_dup rfl E d_X3_takeBack_26 ?_
    refine wa_getI fl_X3_18 k_v0 rfl E d_X3_takeBack_27 ?_
    refine wa_iconst 1 ic_1 E d_X3_takeBack_30 ?_
    refine wa_isub E d_X3_takeBack_31 ?_
    obtain ⟨σ_4, eσ_4, h⟩ := kf_lte h
    refine wa_putI fl_X3_18 fp_3_0 k_v0 rfl (by decide) rfl rfl E d_X3_takeBack_32 eσ_4 ?_
    refine wa_aload_n 1 rfl E d_X3_takeBack_35 ?_
    refine wa_aload_n 0 rfl E d_X3_takeBack_36 ?_
    refine wa_getR fl_X3_11 k_v0 rfl E d_X3_takeBack_37 ?_
    refine wa_aload_n 0 rfl E d_X3_takeBack_40 ?_
    refine wa_getI fl_X3_25 k_v0 rfl E d_X3_takeBack_41 ?_
    refine wa_bipush 61 bp_61 E d_X3_takeBack_44 ?_
    refine wa_imul E d_X3_takeBack_46 ?_
    obtain ⟨q_5, hq_5, h⟩ := kf_bd h
    refine wa_callV (st2 := []) (c_X7_load hty v1 (kf_rf v0 3) ((σ_4.1 v0 2) * 61) k_v1 (kf_wtf hty 3 49 k_v0 (by decide) rfl) σ_4 hq_5) mv_X7_load ml_X3_38 k_v1 rfl (Nat.le_of_ble_eq_true rfl) rfl (Nat.le_of_ble_eq_true rfl) E d_X3_takeBack_47 rfl ?_
    refine wa_iconst 1 ic_1 E d_X3_takeBack_50 ?_
    cases h
    exact wa_zret kf_z1 E d_X3_takeBack_51
  · replace h := kf_ift c_1 h
    refine wa_iconst 0 ic_0 E d_X3_takeBack_7 ?_
    cases h
    exact wa_zret kf_z0 E d_X3_takeBack_8
/-! X3_putInSlot -/
theorem d_X3_putInSlot_0 : kf_dq cX3_putInSlot 0 1 1 (.aload_n 2) := ⟨by decide +kernel, rfl⟩
theorem d_X3_putInSlot_1 : kf_dq cX3_putInSlot 1 2 1 (.aload_n 0) := ⟨by decide +kernel, rfl⟩
theorem d_X3_putInSlot_2 : kf_dq cX3_putInSlot 2 5 3 (.getfield 15) := ⟨by decide +kernel, rfl⟩
theorem d_X3_putInSlot_5 : kf_dq cX3_putInSlot 5 6 1 (.iload_n 1) := ⟨by decide +kernel, rfl⟩
theorem d_X3_putInSlot_6 : kf_dq cX3_putInSlot 6 8 2 (.bipush 61) := ⟨by decide +kernel, rfl⟩
theorem d_X3_putInSlot_8 : kf_dq cX3_putInSlot 8 9 1 (.imul) := ⟨by decide +kernel, rfl⟩
theorem d_X3_putInSlot_9 : kf_dq cX3_putInSlot 9 12 3 (.invokevirtual 28) := ⟨by decide +kernel, rfl⟩
theorem d_X3_putInSlot_12 : kf_dq cX3_putInSlot 12 13 1 (.aload_n 0) := ⟨by decide +kernel, rfl⟩
theorem d_X3_putInSlot_13 : kf_dq cX3_putInSlot 13 14 1 (.dup) := ⟨by decide +kernel, rfl⟩
theorem d_X3_putInSlot_14 : kf_dq cX3_putInSlot 14 17 3 (.getfield 22) := ⟨by decide +kernel, rfl⟩
theorem d_X3_putInSlot_17 : kf_dq cX3_putInSlot 17 18 1 (.iconst 1) := ⟨by decide +kernel, rfl⟩
theorem d_X3_putInSlot_18 : kf_dq cX3_putInSlot 18 19 1 (.iload_n 1) := ⟨by decide +kernel, rfl⟩
theorem d_X3_putInSlot_19 : kf_dq cX3_putInSlot 19 20 1 (.ishl) := ⟨by decide +kernel, rfl⟩
theorem d_X3_putInSlot_20 : kf_dq cX3_putInSlot 20 21 1 (.ior) := ⟨by decide +kernel, rfl⟩
theorem d_X3_putInSlot_21 : kf_dq cX3_putInSlot 21 24 3 (.putfield 22) := ⟨by decide +kernel, rfl⟩
theorem d_X3_putInSlot_24 : kf_dq cX3_putInSlot 24 25 1 (.return_) := ⟨by decide +kernel, rfl⟩
def f_X3_putInSlot (v0 : Nat) (v1 : Int32) (v2 : Nat) (σ : kf_St) : Option kf_St :=
  (f_X7_save v2 (kf_rf v0 4) (v1 * 61) σ).bind fun q_1 =>
  kf_lt (kf_wi q_1 v0 1 ((q_1.1 v0 1) ||| ((1 : Int32) <<< (v1 &&& 31)))) fun σ_2 =>
  some σ_2
set_option maxRecDepth 100000 in
set_option maxHeartbeats 4000000 in
theorem c_X3_putInSlot {G : kf_G} (hty : kf_wt G) (v0 : Nat) (v1 : Int32) (v2 : Nat) (k_v0 : kf_kd G v0 = 4) (k_v2 : kf_kd G v2 = 8) (σ : kf_St) {q : kf_St} (h : f_X3_putInSlot v0 v1 v2 σ = some q) : kf_Ct (3) yX3_putInSlot cX3_putInSlot 3 none G [.ref (kf_ad G v0), .int v1, .ref (kf_ad G v2)] σ none q := by
  refine kf_Ct.of hty.1 (lv := [(0, .ref (kf_ad G v0)), (1, .int v1), (2, .ref (kf_ad G v2))]) (by decide +kernel) rfl (Nat.le_of_ble_eq_true rfl) (fun X E => ?_)
  unfold f_X3_putInSlot at h
  refine wa_aload_n 2 rfl E d_X3_putInSlot_0 ?_
  refine wa_aload_n 0 rfl E d_X3_putInSlot_1 ?_
  refine wa_getR fl_X3_15 k_v0 rfl E d_X3_putInSlot_2 ?_
  refine wa_iload_n 1 rfl E d_X3_putInSlot_5 ?_
  refine wa_bipush 61 bp_61 E d_X3_putInSlot_6 ?_
  refine wa_imul E d_X3_putInSlot_8 ?_
  obtain ⟨q_1, hq_1, h⟩ := kf_bd h
  refine wa_callV (st2 := []) (c_X7_save hty v2 (kf_rf v0 4) (v1 * 61) k_v2 (kf_wtf hty 4 49 k_v0 (by decide) rfl) σ hq_1) mv_X7_save ml_X3_28 k_v2 rfl (Nat.le_of_ble_eq_true rfl) rfl (Nat.le_of_ble_eq_true rfl) E d_X3_putInSlot_9 rfl ?_
  refine wa_aload_n 0 rfl E d_X3_putInSlot_12 ?_
  refine wa_dup rfl E d_X3_putInSlot_13 ?_
  refine wa_getI fl_X3_22 k_v0 rfl E d_X3_putInSlot_14 ?_
  refine wa_iconst 1 ic_1 E d_X3_putInSlot_17 ?_
  refine wa_iload_n 1 rfl E d_X3_putInSlot_18 ?_
  refine wa_ishl E d_X3_putInSlot_19 ?_
  refine wa_ior E d_X3_putInSlot_20 ?_
  obtain ⟨σ_2, eσ_2, h⟩ := kf_lte h
  refine wa_putI fl_X3_22 fp_3_1 k_v0 rfl (by decide) rfl rfl E d_X3_putInSlot_21 eσ_2 ?_
  cases h
  exact wa_vret E d_X3_putInSlot_24
/-! X3_takeFromSlot -/
theorem d_X3_takeFromSlot_0 : kf_dq cX3_takeFromSlot 0 1 1 (.aload_n 0) := ⟨by decide +kernel, rfl⟩
theorem d_X3_takeFromSlot_1 : kf_dq cX3_takeFromSlot 1 4 3 (.getfield 22) := ⟨by decide +kernel, rfl⟩
theorem d_X3_takeFromSlot_4 : kf_dq cX3_takeFromSlot 4 5 1 (.iload_n 1) := ⟨by decide +kernel, rfl⟩
theorem d_X3_takeFromSlot_5 : kf_dq cX3_takeFromSlot 5 6 1 (.ishr) := ⟨by decide +kernel, rfl⟩
theorem d_X3_takeFromSlot_6 : kf_dq cX3_takeFromSlot 6 7 1 (.iconst 1) := ⟨by decide +kernel, rfl⟩
theorem d_X3_takeFromSlot_7 : kf_dq cX3_takeFromSlot 7 8 1 (.iand) := ⟨by decide +kernel, rfl⟩
theorem d_X3_takeFromSlot_8 : kf_dj cX3_takeFromSlot 8 11 13 (.ifCond .ne) := ⟨5, by decide +kernel, rfl, by decide⟩
theorem d_X3_takeFromSlot_11 : kf_dq cX3_takeFromSlot 11 12 1 (.iconst 0) := ⟨by decide +kernel, rfl⟩
theorem d_X3_takeFromSlot_12 : kf_dq cX3_takeFromSlot 12 13 1 (.ireturn) := ⟨by decide +kernel, rfl⟩
theorem d_X3_takeFromSlot_13 : kf_dq cX3_takeFromSlot 13 14 1 (.aload_n 2) := ⟨by decide +kernel, rfl⟩
theorem d_X3_takeFromSlot_14 : kf_dq cX3_takeFromSlot 14 15 1 (.aload_n 0) := ⟨by decide +kernel, rfl⟩
theorem d_X3_takeFromSlot_15 : kf_dq cX3_takeFromSlot 15 18 3 (.getfield 15) := ⟨by decide +kernel, rfl⟩
theorem d_X3_takeFromSlot_18 : kf_dq cX3_takeFromSlot 18 19 1 (.iload_n 1) := ⟨by decide +kernel, rfl⟩
theorem d_X3_takeFromSlot_19 : kf_dq cX3_takeFromSlot 19 21 2 (.bipush 61) := ⟨by decide +kernel, rfl⟩
theorem d_X3_takeFromSlot_21 : kf_dq cX3_takeFromSlot 21 22 1 (.imul) := ⟨by decide +kernel, rfl⟩
theorem d_X3_takeFromSlot_22 : kf_dq cX3_takeFromSlot 22 25 3 (.invokevirtual 38) := ⟨by decide +kernel, rfl⟩
theorem d_X3_takeFromSlot_25 : kf_dq cX3_takeFromSlot 25 26 1 (.aload_n 0) := ⟨by decide +kernel, rfl⟩
theorem d_X3_takeFromSlot_26 : kf_dq cX3_takeFromSlot 26 27 1 (.iconst 0) := ⟨by decide +kernel, rfl⟩
theorem d_X3_takeFromSlot_27 : kf_dq cX3_takeFromSlot 27 30 3 (.putfield 18) := ⟨by decide +kernel, rfl⟩
theorem d_X3_takeFromSlot_30 : kf_dq cX3_takeFromSlot 30 31 1 (.iconst 1) := ⟨by decide +kernel, rfl⟩
theorem d_X3_takeFromSlot_31 : kf_dq cX3_takeFromSlot 31 32 1 (.ireturn) := ⟨by decide +kernel, rfl⟩
def f_X3_takeFromSlot (v0 : Nat) (v1 : Int32) (v2 : Nat) (σ : kf_St) : Option (Int32 × kf_St) :=
  if (((σ.1 v0 1) >>> (v1 &&& 31)) &&& 1) = 0 then
    some (0, σ)
  else
    (f_X7_load v2 (kf_rf v0 4) (v1 * 61) σ).bind fun q_2 =>
    kf_lt (kf_wi q_2 v0 0 0) fun σ_3 =>
    some (1, σ_3)
set_option maxRecDepth 100000 in
set_option maxHeartbeats 4000000 in
theorem c_X3_takeFromSlot {G : kf_G} (hty : kf_wt G) (v0 : Nat) (v1 : Int32) (v2 : Nat) (k_v0 : kf_kd G v0 = 4) (k_v2 : kf_kd G v2 = 8) (σ : kf_St) {q : (Int32 × kf_St)} (h : f_X3_takeFromSlot v0 v1 v2 σ = some q) : kf_Ct (3) yX3_takeFromSlot cX3_takeFromSlot 3 (some .boolean) G [.ref (kf_ad G v0), .int v1, .ref (kf_ad G v2)] σ (some (.int q.1)) q.2 := by
  refine kf_Ct.of hty.1 (lv := [(0, .ref (kf_ad G v0)), (1, .int v1), (2, .ref (kf_ad G v2))]) (by decide +kernel) rfl (Nat.le_of_ble_eq_true rfl) (fun X E => ?_)
  unfold f_X3_takeFromSlot at h
  refine wa_aload_n 0 rfl E d_X3_takeFromSlot_0 ?_
  refine wa_getI fl_X3_22 k_v0 rfl E d_X3_takeFromSlot_1 ?_
  refine wa_iload_n 1 rfl E d_X3_takeFromSlot_4 ?_
  refine wa_ishr E d_X3_takeFromSlot_5 ?_
  refine wa_iconst 1 ic_1 E d_X3_takeFromSlot_6 ?_
  refine wa_iand E d_X3_takeFromSlot_7 ?_
  refine wa_if_ne E d_X3_takeFromSlot_8 (fun c_1 => ?_) (fun c_1 => ?_)
  · replace h := kf_iff c_1 h
    refine wa_aload_n 2 rfl E d_X3_takeFromSlot_13 ?_
    refine wa_aload_n 0 rfl E d_X3_takeFromSlot_14 ?_
    refine wa_getR fl_X3_15 k_v0 rfl E d_X3_takeFromSlot_15 ?_
    refine wa_iload_n 1 rfl E d_X3_takeFromSlot_18 ?_
    refine wa_bipush 61 bp_61 E d_X3_takeFromSlot_19 ?_
    refine wa_imul E d_X3_takeFromSlot_21 ?_
    obtain ⟨q_2, hq_2, h⟩ := kf_bd h
    refine wa_callV (st2 := []) (c_X7_load hty v2 (kf_rf v0 4) (v1 * 61) k_v2 (kf_wtf hty 4 49 k_v0 (by decide) rfl) σ hq_2) mv_X7_load ml_X3_38 k_v2 rfl (Nat.le_of_ble_eq_true rfl) rfl (Nat.le_of_ble_eq_true rfl) E d_X3_takeFromSlot_22 rfl ?_
    refine wa_aload_n 0 rfl E d_X3_takeFromSlot_25 ?_
    refine wa_iconst 0 ic_0 E d_X3_takeFromSlot_26 ?_
    obtain ⟨σ_3, eσ_3, h⟩ := kf_lte h
    refine wa_putI fl_X3_18 fp_3_0 k_v0 rfl (by decide) rfl rfl E d_X3_takeFromSlot_27 eσ_3 ?_
    refine wa_iconst 1 ic_1 E d_X3_takeFromSlot_30 ?_
    cases h
    exact wa_zret kf_z1 E d_X3_takeFromSlot_31
  · replace h := kf_ift c_1 h
    refine wa_iconst 0 ic_0 E d_X3_takeFromSlot_11 ?_
    cases h
    exact wa_zret kf_z0 E d_X3_takeFromSlot_12
/-! X5_sumWith -/
theorem d_X5_sumWith_0 : kf_dq cX5_sumWith 0 1 1 (.iload_n 1) := ⟨by decide +kernel, rfl⟩
theorem d_X5_sumWith_1 : kf_dq cX5_sumWith 1 2 1 (.iconst 1) := ⟨by decide +kernel, rfl⟩
theorem d_X5_sumWith_2 : kf_dq cX5_sumWith 2 3 1 (.iadd) := ⟨by decide +kernel, rfl⟩
theorem d_X5_sumWith_3 : kf_dq cX5_sumWith 3 5 2 (.bipush 32) := ⟨by decide +kernel, rfl⟩
theorem d_X5_sumWith_5 : kf_dq cX5_sumWith 5 6 1 (.imul) := ⟨by decide +kernel, rfl⟩
theorem d_X5_sumWith_6 : kf_dq cX5_sumWith 6 8 2 (.istore 4) := ⟨by decide +kernel, rfl⟩
theorem d_X5_sumWith_8 : kf_dq cX5_sumWith 8 9 1 (.iload_n 3) := ⟨by decide +kernel, rfl⟩
theorem d_X5_sumWith_9 : kf_dj cX5_sumWith 9 12 26 (.ifCond .ge) := ⟨17, by decide +kernel, rfl, by decide⟩
theorem d_X5_sumWith_12 : kf_dq cX5_sumWith 12 15 3 (.sipush 10000) := ⟨by decide +kernel, rfl⟩
theorem d_X5_sumWith_15 : kf_dq cX5_sumWith 15 16 1 (.aload_n 0) := ⟨by decide +kernel, rfl⟩
theorem d_X5_sumWith_16 : kf_dq cX5_sumWith 16 19 3 (.getfield 19) := ⟨by decide +kernel, rfl⟩
theorem d_X5_sumWith_19 : kf_dq cX5_sumWith 19 21 2 (.iload 4) := ⟨by decide +kernel, rfl⟩
theorem d_X5_sumWith_21 : kf_dq cX5_sumWith 21 22 1 (.iload_n 2) := ⟨by decide +kernel, rfl⟩
theorem d_X5_sumWith_22 : kf_dq cX5_sumWith 22 23 1 (.iadd) := ⟨by decide +kernel, rfl⟩
theorem d_X5_sumWith_23 : kf_dq cX5_sumWith 23 24 1 (.iaload) := ⟨by decide +kernel, rfl⟩
theorem d_X5_sumWith_24 : kf_dq cX5_sumWith 24 25 1 (.iadd) := ⟨by decide +kernel, rfl⟩
theorem d_X5_sumWith_25 : kf_dq cX5_sumWith 25 26 1 (.ireturn) := ⟨by decide +kernel, rfl⟩
theorem d_X5_sumWith_26 : kf_dq cX5_sumWith 26 27 1 (.aload_n 0) := ⟨by decide +kernel, rfl⟩
theorem d_X5_sumWith_27 : kf_dq cX5_sumWith 27 30 3 (.getfield 9) := ⟨by decide +kernel, rfl⟩
theorem d_X5_sumWith_30 : kf_dq cX5_sumWith 30 31 1 (.aload_n 0) := ⟨by decide +kernel, rfl⟩
theorem d_X5_sumWith_31 : kf_dq cX5_sumWith 31 34 3 (.getfield 15) := ⟨by decide +kernel, rfl⟩
theorem d_X5_sumWith_34 : kf_dq cX5_sumWith 34 37 3 (.getfield 45) := ⟨by decide +kernel, rfl⟩
theorem d_X5_sumWith_37 : kf_dq cX5_sumWith 37 38 1 (.iload_n 1) := ⟨by decide +kernel, rfl⟩
theorem d_X5_sumWith_38 : kf_dq cX5_sumWith 38 39 1 (.aaload) := ⟨by decide +kernel, rfl⟩
theorem d_X5_sumWith_39 : kf_dq cX5_sumWith 39 42 3 (.getfield 51) := ⟨by decide +kernel, rfl⟩
theorem d_X5_sumWith_42 : kf_dq cX5_sumWith 42 43 1 (.iload_n 3) := ⟨by decide +kernel, rfl⟩
theorem d_X5_sumWith_43 : kf_dq cX5_sumWith 43 46 3 (.invokevirtual 56) := ⟨by decide +kernel, rfl⟩
theorem d_X5_sumWith_46 : kf_dq cX5_sumWith 46 48 2 (.istore 5) := ⟨by decide +kernel, rfl⟩
theorem d_X5_sumWith_48 : kf_dq cX5_sumWith 48 50 2 (.iload 5) := ⟨by decide +kernel, rfl⟩
theorem d_X5_sumWith_50 : kf_dq cX5_sumWith 50 51 1 (.aload_n 0) := ⟨by decide +kernel, rfl⟩
theorem d_X5_sumWith_51 : kf_dq cX5_sumWith 51 54 3 (.getfield 19) := ⟨by decide +kernel, rfl⟩
theorem d_X5_sumWith_54 : kf_dq cX5_sumWith 54 56 2 (.iload 4) := ⟨by decide +kernel, rfl⟩
theorem d_X5_sumWith_56 : kf_dq cX5_sumWith 56 57 1 (.iload_n 2) := ⟨by decide +kernel, rfl⟩
theorem d_X5_sumWith_57 : kf_dq cX5_sumWith 57 58 1 (.iconst 1) := ⟨by decide +kernel, rfl⟩
theorem d_X5_sumWith_58 : kf_dq cX5_sumWith 58 59 1 (.iload_n 3) := ⟨by decide +kernel, rfl⟩
theorem d_X5_sumWith_59 : kf_dq cX5_sumWith 59 60 1 (.ishl) := ⟨by decide +kernel, rfl⟩
theorem d_X5_sumWith_60 : kf_dq cX5_sumWith 60 61 1 (.ior) := ⟨by decide +kernel, rfl⟩
theorem d_X5_sumWith_61 : kf_dq cX5_sumWith 61 62 1 (.iadd) := ⟨by decide +kernel, rfl⟩
theorem d_X5_sumWith_62 : kf_dq cX5_sumWith 62 63 1 (.iaload) := ⟨by decide +kernel, rfl⟩
theorem d_X5_sumWith_63 : kf_dq cX5_sumWith 63 64 1 (.iadd) := ⟨by decide +kernel, rfl⟩
theorem d_X5_sumWith_64 : kf_dq cX5_sumWith 64 65 1 (.ireturn) := ⟨by decide +kernel, rfl⟩
def f_X5_sumWith (v0 : Nat) (v1 : Int32) (v2 : Int32) (v3 : Int32) (σ : kf_St) : Option (Int32 × kf_St) :=
  kf_lt (((v1 + 1) * 32)) fun v4_1 =>
  if 0 ≤ v3 then
    if kf_ix v1 (kf_ln (kf_rf (kf_rf v0 1) 0)) = true then
    (f_X10_unlikeTo (kf_rf v0 0) (kf_rf (kf_rf (kf_rf (kf_rf v0 1) 0) (Int32.toNatClampNeg v1)) 0) v3 σ).bind fun q_4 =>
    if kf_ix (v4_1 + (v2 ||| ((1 : Int32) <<< (v3 &&& 31)))) (kf_ln (kf_rf v0 2)) = true then
    some ((q_4.1 + (q_4.2.1 (kf_rf v0 2) (Int32.toNatClampNeg (v4_1 + (v2 ||| ((1 : Int32) <<< (v3 &&& 31))))))), q_4.2)
    else none
    else none
  else
    if kf_ix (v4_1 + v2) (kf_ln (kf_rf v0 2)) = true then
    some ((10000 + (σ.1 (kf_rf v0 2) (Int32.toNatClampNeg (v4_1 + v2)))), σ)
    else none
set_option maxRecDepth 100000 in
set_option maxHeartbeats 4000000 in
theorem c_X5_sumWith {G : kf_G} (hty : kf_wt G) (v0 : Nat) (v1 : Int32) (v2 : Int32) (v3 : Int32) (k_v0 : kf_kd G v0 = 6) (σ : kf_St) {q : (Int32 × kf_St)} (h : f_X5_sumWith v0 v1 v2 v3 σ = some q) : kf_Ct (3) yX5_sumWith cX5_sumWith 6 (some .int) G [.ref (kf_ad G v0), .int v1, .int v2, .int v3] σ (some (.int q.1)) q.2 := by
  refine kf_Ct.of hty.1 (lv := [(0, .ref (kf_ad G v0)), (1, .int v1), (2, .int v2), (3, .int v3)]) (by decide +kernel) rfl (Nat.le_of_ble_eq_true rfl) (fun X E => ?_)
  unfold f_X5_sumWith at h
  refine wa_iload_n 1 rfl E d_X5_sumWith_0 ?_
  refine wa_iconst 1 ic_1 E d_X5_sumWith_1 ?_
  refine wa_iadd E d_X5_sumWith_2 ?_
  refine wa_bipush 32 bp_32 E d_X5_sumWith_3 ?_
  refine wa_imul E d_X5_sumWith_5 ?_
  obtain ⟨v4_1, ev4_1, h⟩ := kf_lte h
  refine wa_topi ev4_1 ?_
  refine wa_istore (lv' := [(4, .int v4_1), (0, .ref (kf_ad G v0)), (1, .int v1), (2, .int v2), (3, .int v3)]) (by decide) rfl E d_X5_sumWith_6 ?_
  refine wa_iload_n 4 rfl E d_X5_sumWith_8 ?_
  refine wa_if_ge E d_X5_sumWith_9 (fun c_2 => ?_) (fun c_2 => ?_)
  · replace h := kf_ift c_2 h
    refine wa_aload_n 1 rfl E d_X5_sumWith_26 ?_
    refine wa_getR fl_X5_9 k_v0 rfl E d_X5_sumWith_27 ?_
    refine wa_aload_n 1 rfl E d_X5_sumWith_30 ?_
    refine wa_getR fl_X5_15 k_v0 rfl E d_X5_sumWith_31 ?_
    refine wa_getR fl_X5_45 (kf_wtf hty 1 7 k_v0 (by decide) rfl) rfl E d_X5_sumWith_34 ?_
    refine wa_iload_n 2 rfl E d_X5_sumWith_37 ?_
    obtain ⟨g_3, h⟩ := kf_gd h
    refine wa_aald (kf_wtf hty 0 53 (kf_wtf hty 1 7 k_v0 (by decide) rfl) (by decide) rfl) g_3 E d_X5_sumWith_38 ?_
    refine wa_getR fl_X5_51 (kf_wta hty (kf_wtf hty 0 53 (kf_wtf hty 1 7 k_v0 (by decide) rfl) (by decide) rfl) g_3) rfl E d_X5_sumWith_39 ?_
    refine wa_iload_n 4 rfl E d_X5_sumWith_42 ?_
    obtain ⟨q_4, hq_4, h⟩ := kf_bd h
    refine wa_callV (st2 := [.int q_4.1]) (c_X10_unlikeTo hty (kf_rf v0 0) (kf_rf (kf_rf (kf_rf (kf_rf v0 1) 0) (Int32.toNatClampNeg v1)) 0) v3 (kf_wtf hty 0 10 k_v0 (by decide) rfl) (kf_wtf hty 0 49 (kf_wta hty (kf_wtf hty 0 53 (kf_wtf hty 1 7 k_v0 (by decide) rfl) (by decide) rfl) g_3) (by decide) rfl) σ hq_4) mv_X10_unlikeTo ml_X5_56 (kf_wtf hty 0 10 k_v0 (by decide) rfl) rfl (Nat.le_of_ble_eq_true rfl) rfl (Nat.le_of_ble_eq_true rfl) E d_X5_sumWith_43 rfl ?_
    refine wa_istore (lv' := [(5, .int q_4.1), (4, .int v4_1), (0, .ref (kf_ad G v0)), (1, .int v1), (2, .int v2), (3, .int v3)]) (by decide) rfl E d_X5_sumWith_46 ?_
    refine wa_iload 0 rfl E d_X5_sumWith_48 ?_
    refine wa_aload_n 2 rfl E d_X5_sumWith_50 ?_
    refine wa_getR fl_X5_19 k_v0 rfl E d_X5_sumWith_51 ?_
    refine wa_iload 1 rfl E d_X5_sumWith_54 ?_
    refine wa_iload_n 4 rfl E d_X5_sumWith_56 ?_
    refine wa_iconst 1 ic_1 E d_X5_sumWith_57 ?_
    refine wa_iload_n 5 rfl E d_X5_sumWith_58 ?_
    refine wa_ishl E d_X5_sumWith_59 ?_
    refine wa_ior E d_X5_sumWith_60 ?_
    refine wa_iadd E d_X5_sumWith_61 ?_
    obtain ⟨g_5, h⟩ := kf_gd h
    refine wa_iald (kf_wtf hty 2 49 k_v0 (by decide) rfl) g_5 E d_X5_sumWith_62 ?_
    refine wa_iadd E d_X5_sumWith_63 ?_
    cases h
    exact wa_iret E d_X5_sumWith_64
  · replace h := kf_iff c_2 h
    refine wa_sipush 10000 sp_10000 E d_X5_sumWith_12 ?_
    refine wa_aload_n 1 rfl E d_X5_sumWith_15 ?_
    refine wa_getR fl_X5_19 k_v0 rfl E d_X5_sumWith_16 ?_
    refine wa_iload 0 rfl E d_X5_sumWith_19 ?_
    refine wa_iload_n 3 rfl E d_X5_sumWith_21 ?_
    refine wa_iadd E d_X5_sumWith_22 ?_
    obtain ⟨g_6, h⟩ := kf_gd h
    refine wa_iald (kf_wtf hty 2 49 k_v0 (by decide) rfl) g_6 E d_X5_sumWith_23 ?_
    refine wa_iadd E d_X5_sumWith_24 ?_
    cases h
    exact wa_iret E d_X5_sumWith_25
/-! X5_leastFrom -/
theorem d_X5_leastFrom_0 : kf_dq cX5_leastFrom 0 1 1 (.aload_n 0) := ⟨by decide +kernel, rfl⟩
theorem d_X5_leastFrom_1 : kf_dq cX5_leastFrom 1 2 1 (.iload_n 1) := ⟨by decide +kernel, rfl⟩
theorem d_X5_leastFrom_2 : kf_dq cX5_leastFrom 2 3 1 (.iload_n 2) := ⟨by decide +kernel, rfl⟩
theorem d_X5_leastFrom_3 : kf_dq cX5_leastFrom 3 5 2 (.bipush (-2)) := ⟨by decide +kernel, rfl⟩
theorem d_X5_leastFrom_5 : kf_dq cX5_leastFrom 5 8 3 (.invokevirtual 33) := ⟨by decide +kernel, rfl⟩
theorem d_X5_leastFrom_8 : kf_dq cX5_leastFrom 8 9 1 (.istore_n 3) := ⟨by decide +kernel, rfl⟩
theorem d_X5_leastFrom_9 : kf_dq cX5_leastFrom 9 10 1 (.iconst 0) := ⟨by decide +kernel, rfl⟩
theorem d_X5_leastFrom_10 : kf_dq cX5_leastFrom 10 12 2 (.istore 4) := ⟨by decide +kernel, rfl⟩
theorem d_X5_leastFrom_12 : kf_dq cX5_leastFrom 12 14 2 (.iload 4) := ⟨by decide +kernel, rfl⟩
theorem d_X5_leastFrom_14 : kf_dq cX5_leastFrom 14 15 1 (.aload_n 0) := ⟨by decide +kernel, rfl⟩
theorem d_X5_leastFrom_15 : kf_dq cX5_leastFrom 15 18 3 (.getfield 9) := ⟨by decide +kernel, rfl⟩
theorem d_X5_leastFrom_18 : kf_dq cX5_leastFrom 18 21 3 (.getfield 37) := ⟨by decide +kernel, rfl⟩
theorem d_X5_leastFrom_21 : kf_dj cX5_leastFrom 21 24 52 (.if_icmp .ge) := ⟨31, by decide +kernel, rfl, by decide⟩
theorem d_X5_leastFrom_24 : kf_dq cX5_leastFrom 24 25 1 (.iload_n 2) := ⟨by decide +kernel, rfl⟩
theorem d_X5_leastFrom_25 : kf_dq cX5_leastFrom 25 27 2 (.iload 4) := ⟨by decide +kernel, rfl⟩
theorem d_X5_leastFrom_27 : kf_dq cX5_leastFrom 27 28 1 (.ishr) := ⟨by decide +kernel, rfl⟩
theorem d_X5_leastFrom_28 : kf_dq cX5_leastFrom 28 29 1 (.iconst 1) := ⟨by decide +kernel, rfl⟩
theorem d_X5_leastFrom_29 : kf_dq cX5_leastFrom 29 30 1 (.iand) := ⟨by decide +kernel, rfl⟩
theorem d_X5_leastFrom_30 : kf_dj cX5_leastFrom 30 33 46 (.ifCond .ne) := ⟨16, by decide +kernel, rfl, by decide⟩
theorem d_X5_leastFrom_33 : kf_dq cX5_leastFrom 33 34 1 (.iload_n 3) := ⟨by decide +kernel, rfl⟩
theorem d_X5_leastFrom_34 : kf_dq cX5_leastFrom 34 35 1 (.aload_n 0) := ⟨by decide +kernel, rfl⟩
theorem d_X5_leastFrom_35 : kf_dq cX5_leastFrom 35 36 1 (.iload_n 1) := ⟨by decide +kernel, rfl⟩
theorem d_X5_leastFrom_36 : kf_dq cX5_leastFrom 36 37 1 (.iload_n 2) := ⟨by decide +kernel, rfl⟩
theorem d_X5_leastFrom_37 : kf_dq cX5_leastFrom 37 39 2 (.iload 4) := ⟨by decide +kernel, rfl⟩
theorem d_X5_leastFrom_39 : kf_dq cX5_leastFrom 39 42 3 (.invokevirtual 33) := ⟨by decide +kernel, rfl⟩
theorem d_X5_leastFrom_42 : kf_dq cX5_leastFrom 42 45 3 (.invokestatic 40) := ⟨by decide +kernel, rfl⟩
theorem d_X5_leastFrom_45 : kf_dq cX5_leastFrom 45 46 1 (.istore_n 3) := ⟨by decide +kernel, rfl⟩
theorem d_X5_leastFrom_46 : kf_dq cX5_leastFrom 46 49 3 (.iinc 4 1) := ⟨by decide +kernel, rfl⟩
theorem d_X5_leastFrom_49 : kf_dj cX5_leastFrom 49 52 12 .goto := ⟨(-37), by decide +kernel, rfl, by decide⟩
theorem d_X5_leastFrom_52 : kf_dq cX5_leastFrom 52 53 1 (.iload_n 3) := ⟨by decide +kernel, rfl⟩
theorem d_X5_leastFrom_53 : kf_dq cX5_leastFrom 53 54 1 (.ireturn) := ⟨by decide +kernel, rfl⟩
def f_X5_leastFrom_46 (rec12 : Nat → Int32 → Int32 → Int32 → Int32 → kf_St → Option (Int32 × kf_St)) (v0 : Nat) (v1 : Int32) (v2 : Int32) (v3 : Int32) (v4 : Int32) (σ : kf_St) : Option (Int32 × kf_St) :=
  kf_lt (v4 + 1) fun v4_1 =>
  rec12 v0 v1 v2 v3 v4_1 σ
set_option maxRecDepth 100000 in
set_option maxHeartbeats 4000000 in
theorem b_X5_leastFrom_46 {X : kf_X} {G : kf_G} {rec12 : Nat → Int32 → Int32 → Int32 → Int32 → kf_St → Option (Int32 × kf_St)} {q : (Int32 × kf_St)} (E : kf_ok X G cX5_leastFrom RX5 5 (some .int) (4)) (hty : kf_wt G) (hrec12 : ∀ (v0 : Nat) (v1 : Int32) (v2 : Int32) (v3 : Int32) (v4 : Int32) (k_v0 : kf_kd G v0 = 6) (σ : kf_St), rec12 v0 v1 v2 v3 v4 σ = some q → kf_WA X G 5 (kf_Q X G (some (.int q.1)) q.2) 12 [(0, .ref (kf_ad G v0)), (1, .int v1), (2, .int v2), (3, .int v3), (4, .int v4)] [] σ) (v0 : Nat) (v1 : Int32) (v2 : Int32) (v3 : Int32) (v4 : Int32) (k_v0 : kf_kd G v0 = 6) (σ : kf_St) (h : f_X5_leastFrom_46 rec12 v0 v1 v2 v3 v4 σ = some q) : kf_WA X G 5 (kf_Q X G (some (.int q.1)) q.2) 46 [(0, .ref (kf_ad G v0)), (1, .int v1), (2, .int v2), (3, .int v3), (4, .int v4)] [] σ := by
  unfold f_X5_leastFrom_46 at h
  obtain ⟨v4_1, ev4_1, h⟩ := kf_lte h
  refine wa_iinc (lv' := [(4, .int v4_1), (0, .ref (kf_ad G v0)), (1, .int v1), (2, .int v2), (3, .int v3)]) v4_1 4 rfl (kf_inc ic_1 ev4_1) (by decide) rfl E d_X5_leastFrom_46 ?_
  refine wa_goto E d_X5_leastFrom_49 ?_
  refine wa_sub [1, 2, 3, 4, 0] rfl ?_
  exact hrec12 v0 v1 v2 v3 v4_1 k_v0 σ h
def f_X5_leastFrom_12_s (rec12 : Nat → Int32 → Int32 → Int32 → Int32 → kf_St → Option (Int32 × kf_St)) (v0 : Nat) (v1 : Int32) (v2 : Int32) (v3 : Int32) (v4 : Int32) (σ : kf_St) : Option (Int32 × kf_St) :=
  if (σ.1 (kf_rf v0 0) 1) ≤ v4 then
    some (v3, σ)
  else
    if ((v2 >>> (v4 &&& 31)) &&& 1) = 0 then
      (f_X5_sumWith v0 v1 v2 v4 σ).bind fun q_3 =>
      kf_lt (if q_3.1 < v3 then q_3.1 else v3) fun x_4 =>
      f_X5_leastFrom_46 rec12 v0 v1 v2 x_4 v4 q_3.2
    else
      f_X5_leastFrom_46 rec12 v0 v1 v2 v3 v4 σ
def f_X5_leastFrom_12 : Nat → Nat → Int32 → Int32 → Int32 → Int32 → kf_St → Option (Int32 × kf_St)
  | 0, _, _, _, _, _, _ => none
  | n + 1, v0, v1, v2, v3, v4, σ => f_X5_leastFrom_12_s (f_X5_leastFrom_12 n) v0 v1 v2 v3 v4 σ
set_option maxRecDepth 100000 in
set_option maxHeartbeats 4000000 in
theorem b_X5_leastFrom_12_s {X : kf_X} {G : kf_G} (rec12 : Nat → Int32 → Int32 → Int32 → Int32 → kf_St → Option (Int32 × kf_St)) {q : (Int32 × kf_St)} (E : kf_ok X G cX5_leastFrom RX5 5 (some .int) (4)) (hty : kf_wt G) (hrec12 : ∀ (v0 : Nat) (v1 : Int32) (v2 : Int32) (v3 : Int32) (v4 : Int32) (k_v0 : kf_kd G v0 = 6) (σ : kf_St), rec12 v0 v1 v2 v3 v4 σ = some q → kf_WA X G 5 (kf_Q X G (some (.int q.1)) q.2) 12 [(0, .ref (kf_ad G v0)), (1, .int v1), (2, .int v2), (3, .int v3), (4, .int v4)] [] σ) (v0 : Nat) (v1 : Int32) (v2 : Int32) (v3 : Int32) (v4 : Int32) (k_v0 : kf_kd G v0 = 6) (σ : kf_St) (h : f_X5_leastFrom_12_s rec12 v0 v1 v2 v3 v4 σ = some q) : kf_WA X G 5 (kf_Q X G (some (.int q.1)) q.2) 12 [(0, .ref (kf_ad G v0)), (1, .int v1), (2, .int v2), (3, .int v3), (4, .int v4)] [] σ := by
  unfold f_X5_leastFrom_12_s at h
  refine wa_iload 4 rfl E d_X5_leastFrom_12 ?_
  refine wa_aload_n 0 rfl E d_X5_leastFrom_14 ?_
  refine wa_getR fl_X5_9 k_v0 rfl E d_X5_leastFrom_15 ?_
  refine wa_getI fl_X5_37 (kf_wtf hty 0 10 k_v0 (by decide) rfl) rfl E d_X5_leastFrom_18 ?_
  refine wa_icmp_ge E d_X5_leastFrom_21 (fun c_1 => ?_) (fun c_1 => ?_)
  · replace h := kf_ift c_1 h
    refine wa_iload_n 3 rfl E d_X5_leastFrom_52 ?_
    cases h
    exact wa_iret E d_X5_leastFrom_53
  · replace h := kf_iff c_1 h
    refine wa_iload_n 2 rfl E d_X5_leastFrom_24 ?_
    refine wa_iload 4 rfl E d_X5_leastFrom_25 ?_
    refine wa_ishr E d_X5_leastFrom_27 ?_
    refine wa_iconst 1 ic_1 E d_X5_leastFrom_28 ?_
    refine wa_iand E d_X5_leastFrom_29 ?_
    refine wa_if_ne E d_X5_leastFrom_30 (fun c_2 => ?_) (fun c_2 => ?_)
    · replace h := kf_iff c_2 h
      exact b_X5_leastFrom_46 E hty hrec12 v0 v1 v2 v3 v4 k_v0 σ h
    · replace h := kf_ift c_2 h
      refine wa_iload_n 3 rfl E d_X5_leastFrom_33 ?_
      refine wa_aload_n 0 rfl E d_X5_leastFrom_34 ?_
      refine wa_iload_n 1 rfl E d_X5_leastFrom_35 ?_
      refine wa_iload_n 2 rfl E d_X5_leastFrom_36 ?_
      refine wa_iload 4 rfl E d_X5_leastFrom_37 ?_
      obtain ⟨q_3, hq_3, h⟩ := kf_bd h
      refine wa_callV (st2 := [.int q_3.1, .int v3]) (c_X5_sumWith hty v0 v1 v2 v4 k_v0 σ hq_3) mv_X5_sumWith ml_X5_33 k_v0 rfl (Nat.le_of_ble_eq_true rfl) rfl (Nat.le_of_ble_eq_true rfl) E d_X5_leastFrom_39 rfl ?_
      refine wa_mmin ml_X5_40 ms_min mini mc_min (Nat.le_of_ble_eq_true rfl) (Nat.le_of_ble_eq_true rfl) E d_X5_leastFrom_42 ?_
      obtain ⟨x_4, ex_4, h⟩ := kf_lte h
      refine wa_topi ex_4 ?_
      refine wa_istore_n (lv' := [(3, .int x_4), (0, .ref (kf_ad G v0)), (1, .int v1), (2, .int v2), (4, .int v4)]) rfl (by decide) rfl E d_X5_leastFrom_45 ?_
      refine wa_sub [1, 2, 3, 0, 4] rfl ?_
      exact b_X5_leastFrom_46 E hty hrec12 v0 v1 v2 x_4 v4 k_v0 q_3.2 h
theorem b_X5_leastFrom_12 {X : kf_X} {G : kf_G} {q : (Int32 × kf_St)} (E : kf_ok X G cX5_leastFrom RX5 5 (some .int) (4)) (hty : kf_wt G) : ∀ (N : Nat) (v0 : Nat) (v1 : Int32) (v2 : Int32) (v3 : Int32) (v4 : Int32) (k_v0 : kf_kd G v0 = 6) (σ : kf_St) (_ : f_X5_leastFrom_12 N v0 v1 v2 v3 v4 σ = some q), kf_WA X G 5 (kf_Q X G (some (.int q.1)) q.2) 12 [(0, .ref (kf_ad G v0)), (1, .int v1), (2, .int v2), (3, .int v3), (4, .int v4)] [] σ
  | 0, _, _, _, _, _, _, _, h => by cases h
  | N + 1, v0, v1, v2, v3, v4, k_v0, σ, h => b_X5_leastFrom_12_s _ E hty (b_X5_leastFrom_12 E hty N) v0 v1 v2 v3 v4 k_v0 σ h
def f_X5_leastFrom (v0 : Nat) (v1 : Int32) (v2 : Int32) (σ : kf_St) : Option (Int32 × kf_St) :=
  (f_X5_sumWith v0 v1 v2 (-2) σ).bind fun q_1 =>
  f_X5_leastFrom_12 kf_F v0 v1 v2 q_1.1 0 q_1.2
set_option maxRecDepth 100000 in
set_option maxHeartbeats 4000000 in
theorem c_X5_leastFrom {G : kf_G} (hty : kf_wt G) (v0 : Nat) (v1 : Int32) (v2 : Int32) (k_v0 : kf_kd G v0 = 6) (σ : kf_St) {q : (Int32 × kf_St)} (h : f_X5_leastFrom v0 v1 v2 σ = some q) : kf_Ct (4) yX5_leastFrom cX5_leastFrom 5 (some .int) G [.ref (kf_ad G v0), .int v1, .int v2] σ (some (.int q.1)) q.2 := by
  refine kf_Ct.of hty.1 (lv := [(0, .ref (kf_ad G v0)), (1, .int v1), (2, .int v2)]) (by decide +kernel) rfl (Nat.le_of_ble_eq_true rfl) (fun X E => ?_)
  unfold f_X5_leastFrom at h
  refine wa_aload_n 0 rfl E d_X5_leastFrom_0 ?_
  refine wa_iload_n 1 rfl E d_X5_leastFrom_1 ?_
  refine wa_iload_n 2 rfl E d_X5_leastFrom_2 ?_
  refine wa_bipush (-2) bp_m2 E d_X5_leastFrom_3 ?_
  obtain ⟨q_1, hq_1, h⟩ := kf_bd h
  refine wa_callV (st2 := [.int q_1.1]) (c_X5_sumWith hty v0 v1 v2 (-2) k_v0 σ hq_1) mv_X5_sumWith ml_X5_33 k_v0 rfl (Nat.le_of_ble_eq_true rfl) rfl (Nat.le_of_ble_eq_true rfl) E d_X5_leastFrom_5 rfl ?_
  refine wa_istore_n (lv' := [(3, .int q_1.1), (0, .ref (kf_ad G v0)), (1, .int v1), (2, .int v2)]) rfl (by decide) rfl E d_X5_leastFrom_8 ?_
  refine wa_iconst 0 ic_0 E d_X5_leastFrom_9 ?_
  refine wa_istore (lv' := [(4, .int 0), (3, .int q_1.1), (0, .ref (kf_ad G v0)), (1, .int v1), (2, .int v2)]) (by decide) rfl E d_X5_leastFrom_10 ?_
  refine wa_sub [2, 3, 4, 1, 0] rfl ?_
  exact b_X5_leastFrom_12 E hty kf_F v0 v1 v2 q_1.1 0 k_v0 q_1.2 h
/-! X5_findBest -/
theorem d_X5_findBest_0 : kf_dq cX5_findBest 0 1 1 (.iconst 0) := ⟨by decide +kernel, rfl⟩
theorem d_X5_findBest_1 : kf_dq cX5_findBest 1 2 1 (.istore_n 1) := ⟨by decide +kernel, rfl⟩
theorem d_X5_findBest_2 : kf_dq cX5_findBest 2 3 1 (.iload_n 1) := ⟨by decide +kernel, rfl⟩
theorem d_X5_findBest_3 : kf_dq cX5_findBest 3 5 2 (.bipush 32) := ⟨by decide +kernel, rfl⟩
theorem d_X5_findBest_5 : kf_dj cX5_findBest 5 8 32 (.if_icmp .ge) := ⟨27, by decide +kernel, rfl, by decide⟩
theorem d_X5_findBest_8 : kf_dq cX5_findBest 8 9 1 (.aload_n 0) := ⟨by decide +kernel, rfl⟩
theorem d_X5_findBest_9 : kf_dq cX5_findBest 9 12 3 (.getfield 19) := ⟨by decide +kernel, rfl⟩
theorem d_X5_findBest_12 : kf_dq cX5_findBest 12 13 1 (.aload_n 0) := ⟨by decide +kernel, rfl⟩
theorem d_X5_findBest_13 : kf_dq cX5_findBest 13 16 3 (.getfield 9) := ⟨by decide +kernel, rfl⟩
theorem d_X5_findBest_16 : kf_dq cX5_findBest 16 19 3 (.getfield 23) := ⟨by decide +kernel, rfl⟩
theorem d_X5_findBest_19 : kf_dq cX5_findBest 19 21 2 (.bipush 32) := ⟨by decide +kernel, rfl⟩
theorem d_X5_findBest_21 : kf_dq cX5_findBest 21 22 1 (.imul) := ⟨by decide +kernel, rfl⟩
theorem d_X5_findBest_22 : kf_dq cX5_findBest 22 23 1 (.iload_n 1) := ⟨by decide +kernel, rfl⟩
theorem d_X5_findBest_23 : kf_dq cX5_findBest 23 24 1 (.iadd) := ⟨by decide +kernel, rfl⟩
theorem d_X5_findBest_24 : kf_dq cX5_findBest 24 25 1 (.iconst 0) := ⟨by decide +kernel, rfl⟩
theorem d_X5_findBest_25 : kf_dq cX5_findBest 25 26 1 (.iastore) := ⟨by decide +kernel, rfl⟩
theorem d_X5_findBest_26 : kf_dq cX5_findBest 26 29 3 (.iinc 1 1) := ⟨by decide +kernel, rfl⟩
theorem d_X5_findBest_29 : kf_dj cX5_findBest 29 32 2 .goto := ⟨(-27), by decide +kernel, rfl, by decide⟩
theorem d_X5_findBest_32 : kf_dq cX5_findBest 32 33 1 (.aload_n 0) := ⟨by decide +kernel, rfl⟩
theorem d_X5_findBest_33 : kf_dq cX5_findBest 33 36 3 (.getfield 9) := ⟨by decide +kernel, rfl⟩
theorem d_X5_findBest_36 : kf_dq cX5_findBest 36 39 3 (.getfield 23) := ⟨by decide +kernel, rfl⟩
theorem d_X5_findBest_39 : kf_dq cX5_findBest 39 40 1 (.iconst 1) := ⟨by decide +kernel, rfl⟩
theorem d_X5_findBest_40 : kf_dq cX5_findBest 40 41 1 (.isub) := ⟨by decide +kernel, rfl⟩
theorem d_X5_findBest_41 : kf_dq cX5_findBest 41 42 1 (.istore_n 1) := ⟨by decide +kernel, rfl⟩
theorem d_X5_findBest_42 : kf_dq cX5_findBest 42 43 1 (.iload_n 1) := ⟨by decide +kernel, rfl⟩
theorem d_X5_findBest_43 : kf_dj cX5_findBest 43 46 83 (.ifCond .lt) := ⟨40, by decide +kernel, rfl, by decide⟩
theorem d_X5_findBest_46 : kf_dq cX5_findBest 46 47 1 (.iconst 0) := ⟨by decide +kernel, rfl⟩
theorem d_X5_findBest_47 : kf_dq cX5_findBest 47 48 1 (.istore_n 2) := ⟨by decide +kernel, rfl⟩
theorem d_X5_findBest_48 : kf_dq cX5_findBest 48 49 1 (.iload_n 2) := ⟨by decide +kernel, rfl⟩
theorem d_X5_findBest_49 : kf_dq cX5_findBest 49 51 2 (.bipush 32) := ⟨by decide +kernel, rfl⟩
theorem d_X5_findBest_51 : kf_dj cX5_findBest 51 54 77 (.if_icmp .ge) := ⟨26, by decide +kernel, rfl, by decide⟩
theorem d_X5_findBest_54 : kf_dq cX5_findBest 54 55 1 (.aload_n 0) := ⟨by decide +kernel, rfl⟩
theorem d_X5_findBest_55 : kf_dq cX5_findBest 55 58 3 (.getfield 19) := ⟨by decide +kernel, rfl⟩
theorem d_X5_findBest_58 : kf_dq cX5_findBest 58 59 1 (.iload_n 1) := ⟨by decide +kernel, rfl⟩
theorem d_X5_findBest_59 : kf_dq cX5_findBest 59 61 2 (.bipush 32) := ⟨by decide +kernel, rfl⟩
theorem d_X5_findBest_61 : kf_dq cX5_findBest 61 62 1 (.imul) := ⟨by decide +kernel, rfl⟩
theorem d_X5_findBest_62 : kf_dq cX5_findBest 62 63 1 (.iload_n 2) := ⟨by decide +kernel, rfl⟩
theorem d_X5_findBest_63 : kf_dq cX5_findBest 63 64 1 (.iadd) := ⟨by decide +kernel, rfl⟩
theorem d_X5_findBest_64 : kf_dq cX5_findBest 64 65 1 (.aload_n 0) := ⟨by decide +kernel, rfl⟩
theorem d_X5_findBest_65 : kf_dq cX5_findBest 65 66 1 (.iload_n 1) := ⟨by decide +kernel, rfl⟩
theorem d_X5_findBest_66 : kf_dq cX5_findBest 66 67 1 (.iload_n 2) := ⟨by decide +kernel, rfl⟩
theorem d_X5_findBest_67 : kf_dq cX5_findBest 67 70 3 (.invokevirtual 29) := ⟨by decide +kernel, rfl⟩
theorem d_X5_findBest_70 : kf_dq cX5_findBest 70 71 1 (.iastore) := ⟨by decide +kernel, rfl⟩
theorem d_X5_findBest_71 : kf_dq cX5_findBest 71 74 3 (.iinc 2 1) := ⟨by decide +kernel, rfl⟩
theorem d_X5_findBest_74 : kf_dj cX5_findBest 74 77 48 .goto := ⟨(-26), by decide +kernel, rfl, by decide⟩
theorem d_X5_findBest_77 : kf_dq cX5_findBest 77 80 3 (.iinc 1 (-1)) := ⟨by decide +kernel, rfl⟩
theorem d_X5_findBest_80 : kf_dj cX5_findBest 80 83 42 .goto := ⟨(-38), by decide +kernel, rfl, by decide⟩
theorem d_X5_findBest_83 : kf_dq cX5_findBest 83 84 1 (.return_) := ⟨by decide +kernel, rfl⟩
def f_X5_findBest_48_s (rec42 : Nat → Int32 → kf_St → Option kf_St) (rec48 : Nat → Int32 → Int32 → kf_St → Option kf_St) (v0 : Nat) (v1 : Int32) (v2 : Int32) (σ : kf_St) : Option kf_St :=
  if 32 ≤ v2 then
    kf_lt (v1 + (-1)) fun v1_2 =>
    rec42 v0 v1_2 σ
  else
    (f_X5_leastFrom v0 v1 v2 σ).bind fun q_3 =>
    if kf_ix ((v1 * 32) + v2) (kf_ln (kf_rf v0 2)) = true then
    kf_lt (kf_wi q_3.2 (kf_rf v0 2) (Int32.toNatClampNeg ((v1 * 32) + v2)) q_3.1) fun σ_5 =>
    kf_lt (v2 + 1) fun v2_6 =>
    rec48 v0 v1 v2_6 σ_5
    else none
def f_X5_findBest_48 (rec42 : Nat → Int32 → kf_St → Option kf_St) : Nat → Nat → Int32 → Int32 → kf_St → Option kf_St
  | 0, _, _, _, _ => none
  | n + 1, v0, v1, v2, σ => f_X5_findBest_48_s rec42 (f_X5_findBest_48 rec42 n) v0 v1 v2 σ
set_option maxRecDepth 100000 in
set_option maxHeartbeats 4000000 in
theorem b_X5_findBest_48_s {X : kf_X} {G : kf_G} {rec42 : Nat → Int32 → kf_St → Option kf_St} (rec48 : Nat → Int32 → Int32 → kf_St → Option kf_St) {q : kf_St} (E : kf_ok X G cX5_findBest RX5 3 none (5)) (hty : kf_wt G) (hrec42 : ∀ (v0 : Nat) (v1 : Int32) (k_v0 : kf_kd G v0 = 6) (σ : kf_St), rec42 v0 v1 σ = some q → kf_WA X G 3 (kf_Q X G none q) 42 [(0, .ref (kf_ad G v0)), (1, .int v1)] [] σ) (hrec48 : ∀ (v0 : Nat) (v1 : Int32) (v2 : Int32) (k_v0 : kf_kd G v0 = 6) (σ : kf_St), rec48 v0 v1 v2 σ = some q → kf_WA X G 3 (kf_Q X G none q) 48 [(0, .ref (kf_ad G v0)), (1, .int v1), (2, .int v2)] [] σ) (v0 : Nat) (v1 : Int32) (v2 : Int32) (k_v0 : kf_kd G v0 = 6) (σ : kf_St) (h : f_X5_findBest_48_s rec42 rec48 v0 v1 v2 σ = some q) : kf_WA X G 3 (kf_Q X G none q) 48 [(0, .ref (kf_ad G v0)), (1, .int v1), (2, .int v2)] [] σ := by
  unfold f_X5_findBest_48_s at h
  refine wa_iload_n 2 rfl E d_X5_findBest_48 ?_
  refine wa_bipush 32 bp_32 E d_X5_findBest_49 ?_
  refine wa_icmp_ge E d_X5_findBest_51 (fun c_1 => ?_) (fun c_1 => ?_)
  · replace h := kf_ift c_1 h
    obtain ⟨v1_2, ev1_2, h⟩ := kf_lte h
    refine wa_iinc (lv' := [(1, .int v1_2), (0, .ref (kf_ad G v0)), (2, .int v2)]) v1_2 1 rfl (kf_inc ic_m1 ev1_2) (by decide) rfl E d_X5_findBest_77 ?_
    refine wa_goto E d_X5_findBest_80 ?_
    refine wa_sub [1, 0] rfl ?_
    exact hrec42 v0 v1_2 k_v0 σ h
  · replace h := kf_iff c_1 h
    refine wa_aload_n 0 rfl E d_X5_findBest_54 ?_
    refine wa_getR fl_X5_19 k_v0 rfl E d_X5_findBest_55 ?_
    refine wa_iload_n 1 rfl E d_X5_findBest_58 ?_
    refine wa_bipush 32 bp_32 E d_X5_findBest_59 ?_
    refine wa_imul E d_X5_findBest_61 ?_
    refine wa_iload_n 2 rfl E d_X5_findBest_62 ?_
    refine wa_iadd E d_X5_findBest_63 ?_
    refine wa_aload_n 0 rfl E d_X5_findBest_64 ?_
    refine wa_iload_n 1 rfl E d_X5_findBest_65 ?_
    refine wa_iload_n 2 rfl E d_X5_findBest_66 ?_
    obtain ⟨q_3, hq_3, h⟩ := kf_bd h
    refine wa_callV (st2 := [.int q_3.1, .int ((v1 * 32) + v2), .ref (kf_ad G (kf_rf v0 2))]) (c_X5_leastFrom hty v0 v1 v2 k_v0 σ hq_3) mv_X5_leastFrom ml_X5_29 k_v0 rfl (Nat.le_of_ble_eq_true rfl) rfl (Nat.le_of_ble_eq_true rfl) E d_X5_findBest_67 rfl ?_
    obtain ⟨g_4, h⟩ := kf_gd h
    obtain ⟨σ_5, eσ_5, h⟩ := kf_lte h
    refine wa_iast (kf_wtf hty 2 49 k_v0 (by decide) rfl) g_4 E d_X5_findBest_70 eσ_5 ?_
    obtain ⟨v2_6, ev2_6, h⟩ := kf_lte h
    refine wa_iinc (lv' := [(2, .int v2_6), (0, .ref (kf_ad G v0)), (1, .int v1)]) v2_6 2 rfl (kf_inc ic_1 ev2_6) (by decide) rfl E d_X5_findBest_71 ?_
    refine wa_goto E d_X5_findBest_74 ?_
    refine wa_sub [1, 2, 0] rfl ?_
    exact hrec48 v0 v1 v2_6 k_v0 σ_5 h
theorem b_X5_findBest_48 {X : kf_X} {G : kf_G} {rec42 : Nat → Int32 → kf_St → Option kf_St} {q : kf_St} (E : kf_ok X G cX5_findBest RX5 3 none (5)) (hty : kf_wt G) (hrec42 : ∀ (v0 : Nat) (v1 : Int32) (k_v0 : kf_kd G v0 = 6) (σ : kf_St), rec42 v0 v1 σ = some q → kf_WA X G 3 (kf_Q X G none q) 42 [(0, .ref (kf_ad G v0)), (1, .int v1)] [] σ) : ∀ (N : Nat) (v0 : Nat) (v1 : Int32) (v2 : Int32) (k_v0 : kf_kd G v0 = 6) (σ : kf_St) (_ : f_X5_findBest_48 rec42 N v0 v1 v2 σ = some q), kf_WA X G 3 (kf_Q X G none q) 48 [(0, .ref (kf_ad G v0)), (1, .int v1), (2, .int v2)] [] σ
  | 0, _, _, _, _, _, h => by cases h
  | N + 1, v0, v1, v2, k_v0, σ, h => b_X5_findBest_48_s _ E hty hrec42 (b_X5_findBest_48 E hty hrec42 N) v0 v1 v2 k_v0 σ h
def f_X5_findBest_42_s (rec42 : Nat → Int32 → kf_St → Option kf_St) (v0 : Nat) (v1 : Int32) (σ : kf_St) : Option kf_St :=
  if v1 < 0 then
    some σ
  else
    f_X5_findBest_48 rec42 kf_F v0 v1 0 σ
def f_X5_findBest_42 : Nat → Nat → Int32 → kf_St → Option kf_St
  | 0, _, _, _ => none
  | n + 1, v0, v1, σ => f_X5_findBest_42_s (f_X5_findBest_42 n) v0 v1 σ
set_option maxRecDepth 100000 in
set_option maxHeartbeats 4000000 in
theorem b_X5_findBest_42_s {X : kf_X} {G : kf_G} (rec42 : Nat → Int32 → kf_St → Option kf_St) {q : kf_St} (E : kf_ok X G cX5_findBest RX5 3 none (5)) (hty : kf_wt G) (hrec42 : ∀ (v0 : Nat) (v1 : Int32) (k_v0 : kf_kd G v0 = 6) (σ : kf_St), rec42 v0 v1 σ = some q → kf_WA X G 3 (kf_Q X G none q) 42 [(0, .ref (kf_ad G v0)), (1, .int v1)] [] σ) (v0 : Nat) (v1 : Int32) (k_v0 : kf_kd G v0 = 6) (σ : kf_St) (h : f_X5_findBest_42_s rec42 v0 v1 σ = some q) : kf_WA X G 3 (kf_Q X G none q) 42 [(0, .ref (kf_ad G v0)), (1, .int v1)] [] σ := by
  unfold f_X5_findBest_42_s at h
  refine wa_iload_n 1 rfl E d_X5_findBest_42 ?_
  refine wa_if_lt E d_X5_findBest_43 (fun c_1 => ?_) (fun c_1 => ?_)
  · replace h := kf_ift c_1 h
    cases h
    exact wa_vret E d_X5_findBest_83
  · replace h := kf_iff c_1 h
    refine wa_iconst 0 ic_0 E d_X5_findBest_46 ?_
    refine wa_istore_n (lv' := [(2, .int 0), (0, .ref (kf_ad G v0)), (1, .int v1)]) rfl (by decide) rfl E d_X5_findBest_47 ?_
    refine wa_sub [1, 2, 0] rfl ?_
    exact b_X5_findBest_48 E hty hrec42 kf_F v0 v1 0 k_v0 σ h
theorem b_X5_findBest_42 {X : kf_X} {G : kf_G} {q : kf_St} (E : kf_ok X G cX5_findBest RX5 3 none (5)) (hty : kf_wt G) : ∀ (N : Nat) (v0 : Nat) (v1 : Int32) (k_v0 : kf_kd G v0 = 6) (σ : kf_St) (_ : f_X5_findBest_42 N v0 v1 σ = some q), kf_WA X G 3 (kf_Q X G none q) 42 [(0, .ref (kf_ad G v0)), (1, .int v1)] [] σ
  | 0, _, _, _, _, h => by cases h
  | N + 1, v0, v1, k_v0, σ, h => b_X5_findBest_42_s _ E hty (b_X5_findBest_42 E hty N) v0 v1 k_v0 σ h
def f_X5_findBest_2_s (rec2 : Nat → Int32 → kf_St → Option kf_St) (v0 : Nat) (v1 : Int32) (σ : kf_St) : Option kf_St :=
  if 32 ≤ v1 then
    kf_lt (((σ.1 (kf_rf v0 0) 0) - 1)) fun v1_2 =>
    f_X5_findBest_42 kf_F v0 v1_2 σ
  else
    if kf_ix (((σ.1 (kf_rf v0 0) 0) * 32) + v1) (kf_ln (kf_rf v0 2)) = true then
    kf_lt (kf_wi σ (kf_rf v0 2) (Int32.toNatClampNeg (((σ.1 (kf_rf v0 0) 0) * 32) + v1)) 0) fun σ_4 =>
    kf_lt (v1 + 1) fun v1_5 =>
    rec2 v0 v1_5 σ_4
    else none
def f_X5_findBest_2 : Nat → Nat → Int32 → kf_St → Option kf_St
  | 0, _, _, _ => none
  | n + 1, v0, v1, σ => f_X5_findBest_2_s (f_X5_findBest_2 n) v0 v1 σ
set_option maxRecDepth 100000 in
set_option maxHeartbeats 4000000 in
theorem b_X5_findBest_2_s {X : kf_X} {G : kf_G} (rec2 : Nat → Int32 → kf_St → Option kf_St) {q : kf_St} (E : kf_ok X G cX5_findBest RX5 3 none (5)) (hty : kf_wt G) (hrec2 : ∀ (v0 : Nat) (v1 : Int32) (k_v0 : kf_kd G v0 = 6) (σ : kf_St), rec2 v0 v1 σ = some q → kf_WA X G 3 (kf_Q X G none q) 2 [(0, .ref (kf_ad G v0)), (1, .int v1)] [] σ) (v0 : Nat) (v1 : Int32) (k_v0 : kf_kd G v0 = 6) (σ : kf_St) (h : f_X5_findBest_2_s rec2 v0 v1 σ = some q) : kf_WA X G 3 (kf_Q X G none q) 2 [(0, .ref (kf_ad G v0)), (1, .int v1)] [] σ := by
  unfold f_X5_findBest_2_s at h
  refine wa_iload_n 1 rfl E d_X5_findBest_2 ?_
  refine wa_bipush 32 bp_32 E d_X5_findBest_3 ?_
  refine wa_icmp_ge E d_X5_findBest_5 (fun c_1 => ?_) (fun c_1 => ?_)
  · replace h := kf_ift c_1 h
    refine wa_aload_n 0 rfl E d_X5_findBest_32 ?_
    refine wa_getR fl_X5_9 k_v0 rfl E d_X5_findBest_33 ?_
    refine wa_getI fl_X5_23 (kf_wtf hty 0 10 k_v0 (by decide) rfl) rfl E d_X5_findBest_36 ?_
    refine wa_iconst 1 ic_1 E d_X5_findBest_39 ?_
    refine wa_isub E d_X5_findBest_40 ?_
    obtain ⟨v1_2, ev1_2, h⟩ := kf_lte h
    refine wa_topi ev1_2 ?_
    refine wa_istore_n (lv' := [(1, .int v1_2), (0, .ref (kf_ad G v0))]) rfl (by decide) rfl E d_X5_findBest_41 ?_
    refine wa_sub [1, 0] rfl ?_
    exact b_X5_findBest_42 E hty kf_F v0 v1_2 k_v0 σ h
  · replace h := kf_iff c_1 h
    refine wa_aload_n 0 rfl E d_X5_findBest_8 ?_
    refine wa_getR fl_X5_19 k_v0 rfl E d_X5_findBest_9 ?_
    refine wa_aload_n 0 rfl E d_X5_findBest_12 ?_
    refine wa_getR fl_X5_9 k_v0 rfl E d_X5_findBest_13 ?_
    refine wa_getI fl_X5_23 (kf_wtf hty 0 10 k_v0 (by decide) rfl) rfl E d_X5_findBest_16 ?_
    refine wa_bipush 32 bp_32 E d_X5_findBest_19 ?_
    refine wa_imul E d_X5_findBest_21 ?_
    refine wa_iload_n 1 rfl E d_X5_findBest_22 ?_
    refine wa_iadd E d_X5_findBest_23 ?_
    refine wa_iconst 0 ic_0 E d_X5_findBest_24 ?_
    obtain ⟨g_3, h⟩ := kf_gd h
    obtain ⟨σ_4, eσ_4, h⟩ := kf_lte h
    refine wa_iast (kf_wtf hty 2 49 k_v0 (by decide) rfl) g_3 E d_X5_findBest_25 eσ_4 ?_
    obtain ⟨v1_5, ev1_5, h⟩ := kf_lte h
    refine wa_iinc (lv' := [(1, .int v1_5), (0, .ref (kf_ad G v0))]) v1_5 1 rfl (kf_inc ic_1 ev1_5) (by decide) rfl E d_X5_findBest_26 ?_
    refine wa_goto E d_X5_findBest_29 ?_
    refine wa_sub [1, 0] rfl ?_
    exact hrec2 v0 v1_5 k_v0 σ_4 h
theorem b_X5_findBest_2 {X : kf_X} {G : kf_G} {q : kf_St} (E : kf_ok X G cX5_findBest RX5 3 none (5)) (hty : kf_wt G) : ∀ (N : Nat) (v0 : Nat) (v1 : Int32) (k_v0 : kf_kd G v0 = 6) (σ : kf_St) (_ : f_X5_findBest_2 N v0 v1 σ = some q), kf_WA X G 3 (kf_Q X G none q) 2 [(0, .ref (kf_ad G v0)), (1, .int v1)] [] σ
  | 0, _, _, _, _, h => by cases h
  | N + 1, v0, v1, k_v0, σ, h => b_X5_findBest_2_s _ E hty (b_X5_findBest_2 E hty N) v0 v1 k_v0 σ h
def f_X5_findBest (v0 : Nat) (σ : kf_St) : Option kf_St :=
  f_X5_findBest_2 kf_F v0 0 σ
set_option maxRecDepth 100000 in
set_option maxHeartbeats 4000000 in
theorem c_X5_findBest {G : kf_G} (hty : kf_wt G) (v0 : Nat) (k_v0 : kf_kd G v0 = 6) (σ : kf_St) {q : kf_St} (h : f_X5_findBest v0 σ = some q) : kf_Ct (5) yX5_findBest cX5_findBest 3 none G [.ref (kf_ad G v0)] σ none q := by
  refine kf_Ct.of hty.1 (lv := [(0, .ref (kf_ad G v0))]) (by decide +kernel) rfl (Nat.le_of_ble_eq_true rfl) (fun X E => ?_)
  unfold f_X5_findBest at h
  refine wa_iconst 0 ic_0 E d_X5_findBest_0 ?_
  refine wa_istore_n (lv' := [(1, .int 0), (0, .ref (kf_ad G v0))]) rfl (by decide) rfl E d_X5_findBest_1 ?_
  refine wa_sub [1, 0] rfl ?_
  exact b_X5_findBest_2 E hty kf_F v0 0 k_v0 σ h
/-! X5_leastSum -/
theorem d_X5_leastSum_0 : kf_dq cX5_leastSum 0 1 1 (.aload_n 0) := ⟨by decide +kernel, rfl⟩
theorem d_X5_leastSum_1 : kf_dq cX5_leastSum 1 4 3 (.getfield 19) := ⟨by decide +kernel, rfl⟩
theorem d_X5_leastSum_4 : kf_dq cX5_leastSum 4 5 1 (.iconst 0) := ⟨by decide +kernel, rfl⟩
theorem d_X5_leastSum_5 : kf_dq cX5_leastSum 5 6 1 (.iaload) := ⟨by decide +kernel, rfl⟩
theorem d_X5_leastSum_6 : kf_dq cX5_leastSum 6 9 3 (.sipush 10000) := ⟨by decide +kernel, rfl⟩
theorem d_X5_leastSum_9 : kf_dq cX5_leastSum 9 10 1 (.irem) := ⟨by decide +kernel, rfl⟩
theorem d_X5_leastSum_10 : kf_dq cX5_leastSum 10 11 1 (.ireturn) := ⟨by decide +kernel, rfl⟩
def f_X5_leastSum (v0 : Nat) (σ : kf_St) : Option (Int32 × kf_St) :=
  if kf_ix 0 (kf_ln (kf_rf v0 2)) = true then
  if (10000 : Int32) = 0 then none else
  some (((σ.1 (kf_rf v0 2) (Int32.toNatClampNeg 0)) - (σ.1 (kf_rf v0 2) (Int32.toNatClampNeg 0)) / 10000 * 10000), σ)
  else none
set_option maxRecDepth 100000 in
set_option maxHeartbeats 4000000 in
theorem c_X5_leastSum {G : kf_G} (hty : kf_wt G) (v0 : Nat) (k_v0 : kf_kd G v0 = 6) (σ : kf_St) {q : (Int32 × kf_St)} (h : f_X5_leastSum v0 σ = some q) : kf_Ct (1) yX5_leastSum cX5_leastSum 1 (some .int) G [.ref (kf_ad G v0)] σ (some (.int q.1)) q.2 := by
  refine kf_Ct.of hty.1 (lv := [(0, .ref (kf_ad G v0))]) (by decide +kernel) rfl (Nat.le_of_ble_eq_true rfl) (fun X E => ?_)
  unfold f_X5_leastSum at h
  refine wa_aload_n 0 rfl E d_X5_leastSum_0 ?_
  refine wa_getR fl_X5_19 k_v0 rfl E d_X5_leastSum_1 ?_
  refine wa_iconst 0 ic_0 E d_X5_leastSum_4 ?_
  obtain ⟨g_1, h⟩ := kf_gd h
  refine wa_iald (kf_wtf hty 2 49 k_v0 (by decide) rfl) g_1 E d_X5_leastSum_5 ?_
  refine wa_sipush 10000 sp_10000 E d_X5_leastSum_6 ?_
  obtain ⟨g_2, h⟩ := kf_gn h
  refine wa_irem g_2 E d_X5_leastSum_9 ?_
  cases h
  exact wa_iret E d_X5_leastSum_10
/-! X5_partnerAmongFree -/
theorem d_X5_partnerAmongFree_0 : kf_dq cX5_partnerAmongFree 0 1 1 (.iconst 0) := ⟨by decide +kernel, rfl⟩
theorem d_X5_partnerAmongFree_1 : kf_dq cX5_partnerAmongFree 1 2 1 (.istore_n 3) := ⟨by decide +kernel, rfl⟩
theorem d_X5_partnerAmongFree_2 : kf_dq cX5_partnerAmongFree 2 3 1 (.iload_n 3) := ⟨by decide +kernel, rfl⟩
theorem d_X5_partnerAmongFree_3 : kf_dq cX5_partnerAmongFree 3 4 1 (.aload_n 0) := ⟨by decide +kernel, rfl⟩
theorem d_X5_partnerAmongFree_4 : kf_dq cX5_partnerAmongFree 4 7 3 (.getfield 9) := ⟨by decide +kernel, rfl⟩
theorem d_X5_partnerAmongFree_7 : kf_dq cX5_partnerAmongFree 7 10 3 (.getfield 37) := ⟨by decide +kernel, rfl⟩
theorem d_X5_partnerAmongFree_10 : kf_dj cX5_partnerAmongFree 10 13 62 (.if_icmp .ge) := ⟨52, by decide +kernel, rfl, by decide⟩
theorem d_X5_partnerAmongFree_13 : kf_dq cX5_partnerAmongFree 13 14 1 (.iload_n 2) := ⟨by decide +kernel, rfl⟩
theorem d_X5_partnerAmongFree_14 : kf_dq cX5_partnerAmongFree 14 15 1 (.iload_n 3) := ⟨by decide +kernel, rfl⟩
theorem d_X5_partnerAmongFree_15 : kf_dq cX5_partnerAmongFree 15 16 1 (.ishr) := ⟨by decide +kernel, rfl⟩
theorem d_X5_partnerAmongFree_16 : kf_dq cX5_partnerAmongFree 16 17 1 (.iconst 1) := ⟨by decide +kernel, rfl⟩
theorem d_X5_partnerAmongFree_17 : kf_dq cX5_partnerAmongFree 17 18 1 (.iand) := ⟨by decide +kernel, rfl⟩
theorem d_X5_partnerAmongFree_18 : kf_dj cX5_partnerAmongFree 18 21 25 (.ifCond .ne) := ⟨7, by decide +kernel, rfl, by decide⟩
theorem d_X5_partnerAmongFree_21 : kf_dq cX5_partnerAmongFree 21 22 1 (.iconst 1) := ⟨by decide +kernel, rfl⟩
theorem d_X5_partnerAmongFree_22 : kf_dj cX5_partnerAmongFree 22 25 26 .goto := ⟨4, by decide +kernel, rfl, by decide⟩
theorem d_X5_partnerAmongFree_25 : kf_dq cX5_partnerAmongFree 25 26 1 (.iconst 0) := ⟨by decide +kernel, rfl⟩
theorem d_X5_partnerAmongFree_26 : kf_dq cX5_partnerAmongFree 26 28 2 (.istore 4) := ⟨by decide +kernel, rfl⟩
theorem d_X5_partnerAmongFree_28 : kf_dq cX5_partnerAmongFree 28 30 2 (.iload 4) := ⟨by decide +kernel, rfl⟩
theorem d_X5_partnerAmongFree_30 : kf_dj cX5_partnerAmongFree 30 33 56 (.ifCond .eq) := ⟨26, by decide +kernel, rfl, by decide⟩
theorem d_X5_partnerAmongFree_33 : kf_dq cX5_partnerAmongFree 33 34 1 (.aload_n 0) := ⟨by decide +kernel, rfl⟩
theorem d_X5_partnerAmongFree_34 : kf_dq cX5_partnerAmongFree 34 35 1 (.iload_n 1) := ⟨by decide +kernel, rfl⟩
theorem d_X5_partnerAmongFree_35 : kf_dq cX5_partnerAmongFree 35 36 1 (.iload_n 2) := ⟨by decide +kernel, rfl⟩
theorem d_X5_partnerAmongFree_36 : kf_dq cX5_partnerAmongFree 36 37 1 (.iload_n 3) := ⟨by decide +kernel, rfl⟩
theorem d_X5_partnerAmongFree_37 : kf_dq cX5_partnerAmongFree 37 40 3 (.invokevirtual 33) := ⟨by decide +kernel, rfl⟩
theorem d_X5_partnerAmongFree_40 : kf_dq cX5_partnerAmongFree 40 41 1 (.aload_n 0) := ⟨by decide +kernel, rfl⟩
theorem d_X5_partnerAmongFree_41 : kf_dq cX5_partnerAmongFree 41 44 3 (.getfield 19) := ⟨by decide +kernel, rfl⟩
theorem d_X5_partnerAmongFree_44 : kf_dq cX5_partnerAmongFree 44 45 1 (.iload_n 1) := ⟨by decide +kernel, rfl⟩
theorem d_X5_partnerAmongFree_45 : kf_dq cX5_partnerAmongFree 45 47 2 (.bipush 32) := ⟨by decide +kernel, rfl⟩
theorem d_X5_partnerAmongFree_47 : kf_dq cX5_partnerAmongFree 47 48 1 (.imul) := ⟨by decide +kernel, rfl⟩
theorem d_X5_partnerAmongFree_48 : kf_dq cX5_partnerAmongFree 48 49 1 (.iload_n 2) := ⟨by decide +kernel, rfl⟩
theorem d_X5_partnerAmongFree_49 : kf_dq cX5_partnerAmongFree 49 50 1 (.iadd) := ⟨by decide +kernel, rfl⟩
theorem d_X5_partnerAmongFree_50 : kf_dq cX5_partnerAmongFree 50 51 1 (.iaload) := ⟨by decide +kernel, rfl⟩
theorem d_X5_partnerAmongFree_51 : kf_dj cX5_partnerAmongFree 51 54 56 (.if_icmp .ne) := ⟨5, by decide +kernel, rfl, by decide⟩
theorem d_X5_partnerAmongFree_54 : kf_dq cX5_partnerAmongFree 54 55 1 (.iload_n 3) := ⟨by decide +kernel, rfl⟩
theorem d_X5_partnerAmongFree_55 : kf_dq cX5_partnerAmongFree 55 56 1 (.ireturn) := ⟨by decide +kernel, rfl⟩
theorem d_X5_partnerAmongFree_56 : kf_dq cX5_partnerAmongFree 56 59 3 (.iinc 3 1) := ⟨by decide +kernel, rfl⟩
theorem d_X5_partnerAmongFree_59 : kf_dj cX5_partnerAmongFree 59 62 2 .goto := ⟨(-57), by decide +kernel, rfl, by decide⟩
theorem d_X5_partnerAmongFree_62 : kf_dq cX5_partnerAmongFree 62 64 2 (.bipush (-2)) := ⟨by decide +kernel, rfl⟩
theorem d_X5_partnerAmongFree_64 : kf_dq cX5_partnerAmongFree 64 65 1 (.ireturn) := ⟨by decide +kernel, rfl⟩
def f_X5_partnerAmongFree_56 (rec2 : Nat → Int32 → Int32 → Int32 → kf_St → Option (Int32 × kf_St)) (v0 : Nat) (v1 : Int32) (v2 : Int32) (v3 : Int32) (σ : kf_St) : Option (Int32 × kf_St) :=
  kf_lt (v3 + 1) fun v3_1 =>
  rec2 v0 v1 v2 v3_1 σ
set_option maxRecDepth 100000 in
set_option maxHeartbeats 4000000 in
theorem b_X5_partnerAmongFree_56 {X : kf_X} {G : kf_G} {rec2 : Nat → Int32 → Int32 → Int32 → kf_St → Option (Int32 × kf_St)} {q : (Int32 × kf_St)} (E : kf_ok X G cX5_partnerAmongFree RX5 5 (some .int) (4)) (hty : kf_wt G) (hrec2 : ∀ (v0 : Nat) (v1 : Int32) (v2 : Int32) (v3 : Int32) (k_v0 : kf_kd G v0 = 6) (σ : kf_St), rec2 v0 v1 v2 v3 σ = some q → kf_WA X G 5 (kf_Q X G (some (.int q.1)) q.2) 2 [(0, .ref (kf_ad G v0)), (1, .int v1), (2, .int v2), (3, .int v3)] [] σ) (v0 : Nat) (v1 : Int32) (v2 : Int32) (v3 : Int32) (k_v0 : kf_kd G v0 = 6) (σ : kf_St) (h : f_X5_partnerAmongFree_56 rec2 v0 v1 v2 v3 σ = some q) : kf_WA X G 5 (kf_Q X G (some (.int q.1)) q.2) 56 [(0, .ref (kf_ad G v0)), (1, .int v1), (2, .int v2), (3, .int v3)] [] σ := by
  unfold f_X5_partnerAmongFree_56 at h
  obtain ⟨v3_1, ev3_1, h⟩ := kf_lte h
  refine wa_iinc (lv' := [(3, .int v3_1), (0, .ref (kf_ad G v0)), (1, .int v1), (2, .int v2)]) v3_1 3 rfl (kf_inc ic_1 ev3_1) (by decide) rfl E d_X5_partnerAmongFree_56 ?_
  refine wa_goto E d_X5_partnerAmongFree_59 ?_
  refine wa_sub [1, 2, 3, 0] rfl ?_
  exact hrec2 v0 v1 v2 v3_1 k_v0 σ h
def f_X5_partnerAmongFree_26 (rec2 : Nat → Int32 → Int32 → Int32 → kf_St → Option (Int32 × kf_St)) (v0 : Nat) (v1 : Int32) (v2 : Int32) (v3 : Int32) (s0 : Int32) (σ : kf_St) : Option (Int32 × kf_St) :=
  if s0 = 0 then
    f_X5_partnerAmongFree_56 rec2 v0 v1 v2 v3 σ
  else
    (f_X5_sumWith v0 v1 v2 v3 σ).bind fun q_2 =>
    if kf_ix ((v1 * 32) + v2) (kf_ln (kf_rf v0 2)) = true then
    if q_2.1 = (q_2.2.1 (kf_rf v0 2) (Int32.toNatClampNeg ((v1 * 32) + v2))) then
      some (v3, q_2.2)
    else
      f_X5_partnerAmongFree_56 rec2 v0 v1 v2 v3 q_2.2
    else none
set_option maxRecDepth 100000 in
set_option maxHeartbeats 4000000 in
theorem b_X5_partnerAmongFree_26 {X : kf_X} {G : kf_G} {rec2 : Nat → Int32 → Int32 → Int32 → kf_St → Option (Int32 × kf_St)} {q : (Int32 × kf_St)} (E : kf_ok X G cX5_partnerAmongFree RX5 5 (some .int) (4)) (hty : kf_wt G) (hrec2 : ∀ (v0 : Nat) (v1 : Int32) (v2 : Int32) (v3 : Int32) (k_v0 : kf_kd G v0 = 6) (σ : kf_St), rec2 v0 v1 v2 v3 σ = some q → kf_WA X G 5 (kf_Q X G (some (.int q.1)) q.2) 2 [(0, .ref (kf_ad G v0)), (1, .int v1), (2, .int v2), (3, .int v3)] [] σ) (v0 : Nat) (v1 : Int32) (v2 : Int32) (v3 : Int32) (s0 : Int32) (k_v0 : kf_kd G v0 = 6) (σ : kf_St) (h : f_X5_partnerAmongFree_26 rec2 v0 v1 v2 v3 s0 σ = some q) : kf_WA X G 5 (kf_Q X G (some (.int q.1)) q.2) 26 [(0, .ref (kf_ad G v0)), (1, .int v1), (2, .int v2), (3, .int v3)] [.int s0] σ := by
  unfold f_X5_partnerAmongFree_26 at h
  refine wa_istore (lv' := [(4, .int s0), (0, .ref (kf_ad G v0)), (1, .int v1), (2, .int v2), (3, .int v3)]) (by decide) rfl E d_X5_partnerAmongFree_26 ?_
  refine wa_iload 0 rfl E d_X5_partnerAmongFree_28 ?_
  refine wa_if_eq E d_X5_partnerAmongFree_30 (fun c_1 => ?_) (fun c_1 => ?_)
  · replace h := kf_ift c_1 h
    refine wa_sub [1, 2, 3, 4] rfl ?_
    exact b_X5_partnerAmongFree_56 E hty hrec2 v0 v1 v2 v3 k_v0 σ h
  · replace h := kf_iff c_1 h
    refine wa_aload_n 1 rfl E d_X5_partnerAmongFree_33 ?_
    refine wa_iload_n 2 rfl E d_X5_partnerAmongFree_34 ?_
    refine wa_iload_n 3 rfl E d_X5_partnerAmongFree_35 ?_
    refine wa_iload_n 4 rfl E d_X5_partnerAmongFree_36 ?_
    obtain ⟨q_2, hq_2, h⟩ := kf_bd h
    refine wa_callV (st2 := [.int q_2.1]) (c_X5_sumWith hty v0 v1 v2 v3 k_v0 σ hq_2) mv_X5_sumWith ml_X5_33 k_v0 rfl (Nat.le_of_ble_eq_true rfl) rfl (Nat.le_of_ble_eq_true rfl) E d_X5_partnerAmongFree_37 rfl ?_
    refine wa_aload_n 1 rfl E d_X5_partnerAmongFree_40 ?_
    refine wa_getR fl_X5_19 k_v0 rfl E d_X5_partnerAmongFree_41 ?_
    refine wa_iload_n 2 rfl E d_X5_partnerAmongFree_44 ?_
    refine wa_bipush 32 bp_32 E d_X5_partnerAmongFree_45 ?_
    refine wa_imul E d_X5_partnerAmongFree_47 ?_
    refine wa_iload_n 3 rfl E d_X5_partnerAmongFree_48 ?_
    refine wa_iadd E d_X5_partnerAmongFree_49 ?_
    obtain ⟨g_3, h⟩ := kf_gd h
    refine wa_iald (kf_wtf hty 2 49 k_v0 (by decide) rfl) g_3 E d_X5_partnerAmongFree_50 ?_
    refine wa_icmp_ne E d_X5_partnerAmongFree_51 (fun c_4 => ?_) (fun c_4 => ?_)
    · replace h := kf_iff c_4 h
      refine wa_sub [1, 2, 3, 4] rfl ?_
      exact b_X5_partnerAmongFree_56 E hty hrec2 v0 v1 v2 v3 k_v0 q_2.2 h
    · replace h := kf_ift c_4 h
      refine wa_iload_n 4 rfl E d_X5_partnerAmongFree_54 ?_
      cases h
      exact wa_iret E d_X5_partnerAmongFree_55
def f_X5_partnerAmongFree_2_s (rec2 : Nat → Int32 → Int32 → Int32 → kf_St → Option (Int32 × kf_St)) (v0 : Nat) (v1 : Int32) (v2 : Int32) (v3 : Int32) (σ : kf_St) : Option (Int32 × kf_St) :=
  if (σ.1 (kf_rf v0 0) 1) ≤ v3 then
    some ((-2), σ)
  else
    if ((v2 >>> (v3 &&& 31)) &&& 1) = 0 then
      f_X5_partnerAmongFree_26 rec2 v0 v1 v2 v3 1 σ
    else
      f_X5_partnerAmongFree_26 rec2 v0 v1 v2 v3 0 σ
def f_X5_partnerAmongFree_2 : Nat → Nat → Int32 → Int32 → Int32 → kf_St → Option (Int32 × kf_St)
  | 0, _, _, _, _, _ => none
  | n + 1, v0, v1, v2, v3, σ => f_X5_partnerAmongFree_2_s (f_X5_partnerAmongFree_2 n) v0 v1 v2 v3 σ
set_option maxRecDepth 100000 in
set_option maxHeartbeats 4000000 in
theorem b_X5_partnerAmongFree_2_s {X : kf_X} {G : kf_G} (rec2 : Nat → Int32 → Int32 → Int32 → kf_St → Option (Int32 × kf_St)) {q : (Int32 × kf_St)} (E : kf_ok X G cX5_partnerAmongFree RX5 5 (some .int) (4)) (hty : kf_wt G) (hrec2 : ∀ (v0 : Nat) (v1 : Int32) (v2 : Int32) (v3 : Int32) (k_v0 : kf_kd G v0 = 6) (σ : kf_St), rec2 v0 v1 v2 v3 σ = some q → kf_WA X G 5 (kf_Q X G (some (.int q.1)) q.2) 2 [(0, .ref (kf_ad G v0)), (1, .int v1), (2, .int v2), (3, .int v3)] [] σ) (v0 : Nat) (v1 : Int32) (v2 : Int32) (v3 : Int32) (k_v0 : kf_kd G v0 = 6) (σ : kf_St) (h : f_X5_partnerAmongFree_2_s rec2 v0 v1 v2 v3 σ = some q) : kf_WA X G 5 (kf_Q X G (some (.int q.1)) q.2) 2 [(0, .ref (kf_ad G v0)), (1, .int v1), (2, .int v2), (3, .int v3)] [] σ := by
  unfold f_X5_partnerAmongFree_2_s at h
  refine wa_iload_n 3 rfl E d_X5_partnerAmongFree_2 ?_
  refine wa_aload_n 0 rfl E d_X5_partnerAmongFree_3 ?_
  refine wa_getR fl_X5_9 k_v0 rfl E d_X5_partnerAmongFree_4 ?_
  refine wa_getI fl_X5_37 (kf_wtf hty 0 10 k_v0 (by decide) rfl) rfl E d_X5_partnerAmongFree_7 ?_
  refine wa_icmp_ge E d_X5_partnerAmongFree_10 (fun c_1 => ?_) (fun c_1 => ?_)
  · replace h := kf_ift c_1 h
    refine wa_bipush (-2) bp_m2 E d_X5_partnerAmongFree_62 ?_
    cases h
    exact wa_iret E d_X5_partnerAmongFree_64
  · replace h := kf_iff c_1 h
    refine wa_iload_n 2 rfl E d_X5_partnerAmongFree_13 ?_
    refine wa_iload_n 3 rfl E d_X5_partnerAmongFree_14 ?_
    refine wa_ishr E d_X5_partnerAmongFree_15 ?_
    refine wa_iconst 1 ic_1 E d_X5_partnerAmongFree_16 ?_
    refine wa_iand E d_X5_partnerAmongFree_17 ?_
    refine wa_if_ne E d_X5_partnerAmongFree_18 (fun c_2 => ?_) (fun c_2 => ?_)
    · replace h := kf_iff c_2 h
      refine wa_iconst 0 ic_0 E d_X5_partnerAmongFree_25 ?_
      exact b_X5_partnerAmongFree_26 E hty hrec2 v0 v1 v2 v3 0 k_v0 σ h
    · replace h := kf_ift c_2 h
      refine wa_iconst 1 ic_1 E d_X5_partnerAmongFree_21 ?_
      refine wa_goto E d_X5_partnerAmongFree_22 ?_
      exact b_X5_partnerAmongFree_26 E hty hrec2 v0 v1 v2 v3 1 k_v0 σ h
theorem b_X5_partnerAmongFree_2 {X : kf_X} {G : kf_G} {q : (Int32 × kf_St)} (E : kf_ok X G cX5_partnerAmongFree RX5 5 (some .int) (4)) (hty : kf_wt G) : ∀ (N : Nat) (v0 : Nat) (v1 : Int32) (v2 : Int32) (v3 : Int32) (k_v0 : kf_kd G v0 = 6) (σ : kf_St) (_ : f_X5_partnerAmongFree_2 N v0 v1 v2 v3 σ = some q), kf_WA X G 5 (kf_Q X G (some (.int q.1)) q.2) 2 [(0, .ref (kf_ad G v0)), (1, .int v1), (2, .int v2), (3, .int v3)] [] σ
  | 0, _, _, _, _, _, _, h => by cases h
  | N + 1, v0, v1, v2, v3, k_v0, σ, h => b_X5_partnerAmongFree_2_s _ E hty (b_X5_partnerAmongFree_2 E hty N) v0 v1 v2 v3 k_v0 σ h
def f_X5_partnerAmongFree (v0 : Nat) (v1 : Int32) (v2 : Int32) (σ : kf_St) : Option (Int32 × kf_St) :=
  f_X5_partnerAmongFree_2 kf_F v0 v1 v2 0 σ
set_option maxRecDepth 100000 in
set_option maxHeartbeats 4000000 in
theorem c_X5_partnerAmongFree {G : kf_G} (hty : kf_wt G) (v0 : Nat) (v1 : Int32) (v2 : Int32) (k_v0 : kf_kd G v0 = 6) (σ : kf_St) {q : (Int32 × kf_St)} (h : f_X5_partnerAmongFree v0 v1 v2 σ = some q) : kf_Ct (4) yX5_partnerAmongFree cX5_partnerAmongFree 5 (some .int) G [.ref (kf_ad G v0), .int v1, .int v2] σ (some (.int q.1)) q.2 := by
  refine kf_Ct.of hty.1 (lv := [(0, .ref (kf_ad G v0)), (1, .int v1), (2, .int v2)]) (by decide +kernel) rfl (Nat.le_of_ble_eq_true rfl) (fun X E => ?_)
  unfold f_X5_partnerAmongFree at h
  refine wa_iconst 0 ic_0 E d_X5_partnerAmongFree_0 ?_
  refine wa_istore_n (lv' := [(3, .int 0), (0, .ref (kf_ad G v0)), (1, .int v1), (2, .int v2)]) rfl (by decide) rfl E d_X5_partnerAmongFree_1 ?_
  refine wa_sub [1, 2, 3, 0] rfl ?_
  exact b_X5_partnerAmongFree_2 E hty kf_F v0 v1 v2 0 k_v0 σ h
/-! X5_partnerOf -/
theorem d_X5_partnerOf_0 : kf_dq cX5_partnerOf 0 1 1 (.iconst 0) := ⟨by decide +kernel, rfl⟩
theorem d_X5_partnerOf_1 : kf_dq cX5_partnerOf 1 2 1 (.istore_n 2) := ⟨by decide +kernel, rfl⟩
theorem d_X5_partnerOf_2 : kf_dq cX5_partnerOf 2 4 2 (.bipush (-2)) := ⟨by decide +kernel, rfl⟩
theorem d_X5_partnerOf_4 : kf_dq cX5_partnerOf 4 5 1 (.istore_n 3) := ⟨by decide +kernel, rfl⟩
theorem d_X5_partnerOf_5 : kf_dq cX5_partnerOf 5 6 1 (.iconst 0) := ⟨by decide +kernel, rfl⟩
theorem d_X5_partnerOf_6 : kf_dq cX5_partnerOf 6 8 2 (.istore 4) := ⟨by decide +kernel, rfl⟩
theorem d_X5_partnerOf_8 : kf_dq cX5_partnerOf 8 10 2 (.iload 4) := ⟨by decide +kernel, rfl⟩
theorem d_X5_partnerOf_10 : kf_dq cX5_partnerOf 10 11 1 (.iload_n 1) := ⟨by decide +kernel, rfl⟩
theorem d_X5_partnerOf_11 : kf_dj cX5_partnerOf 11 14 54 (.if_icmp .gt) := ⟨43, by decide +kernel, rfl, by decide⟩
theorem d_X5_partnerOf_14 : kf_dq cX5_partnerOf 14 16 2 (.iload 4) := ⟨by decide +kernel, rfl⟩
theorem d_X5_partnerOf_16 : kf_dq cX5_partnerOf 16 17 1 (.aload_n 0) := ⟨by decide +kernel, rfl⟩
theorem d_X5_partnerOf_17 : kf_dq cX5_partnerOf 17 20 3 (.getfield 9) := ⟨by decide +kernel, rfl⟩
theorem d_X5_partnerOf_20 : kf_dq cX5_partnerOf 20 23 3 (.getfield 23) := ⟨by decide +kernel, rfl⟩
theorem d_X5_partnerOf_23 : kf_dj cX5_partnerOf 23 26 54 (.if_icmp .ge) := ⟨31, by decide +kernel, rfl, by decide⟩
theorem d_X5_partnerOf_26 : kf_dq cX5_partnerOf 26 27 1 (.aload_n 0) := ⟨by decide +kernel, rfl⟩
theorem d_X5_partnerOf_27 : kf_dq cX5_partnerOf 27 29 2 (.iload 4) := ⟨by decide +kernel, rfl⟩
theorem d_X5_partnerOf_29 : kf_dq cX5_partnerOf 29 30 1 (.iload_n 2) := ⟨by decide +kernel, rfl⟩
theorem d_X5_partnerOf_30 : kf_dq cX5_partnerOf 30 33 3 (.invokevirtual 60) := ⟨by decide +kernel, rfl⟩
theorem d_X5_partnerOf_33 : kf_dq cX5_partnerOf 33 34 1 (.istore_n 3) := ⟨by decide +kernel, rfl⟩
theorem d_X5_partnerOf_34 : kf_dq cX5_partnerOf 34 35 1 (.iload_n 2) := ⟨by decide +kernel, rfl⟩
theorem d_X5_partnerOf_35 : kf_dq cX5_partnerOf 35 36 1 (.iload_n 3) := ⟨by decide +kernel, rfl⟩
theorem d_X5_partnerOf_36 : kf_dj cX5_partnerOf 36 39 43 (.ifCond .ge) := ⟨7, by decide +kernel, rfl, by decide⟩
theorem d_X5_partnerOf_39 : kf_dq cX5_partnerOf 39 40 1 (.iconst 0) := ⟨by decide +kernel, rfl⟩
theorem d_X5_partnerOf_40 : kf_dj cX5_partnerOf 40 43 46 .goto := ⟨6, by decide +kernel, rfl, by decide⟩
theorem d_X5_partnerOf_43 : kf_dq cX5_partnerOf 43 44 1 (.iconst 1) := ⟨by decide +kernel, rfl⟩
theorem d_X5_partnerOf_44 : kf_dq cX5_partnerOf 44 45 1 (.iload_n 3) := ⟨by decide +kernel, rfl⟩
theorem d_X5_partnerOf_45 : kf_dq cX5_partnerOf 45 46 1 (.ishl) := ⟨by decide +kernel, rfl⟩
theorem d_X5_partnerOf_46 : kf_dq cX5_partnerOf 46 47 1 (.ior) := ⟨by decide +kernel, rfl⟩
theorem d_X5_partnerOf_47 : kf_dq cX5_partnerOf 47 48 1 (.istore_n 2) := ⟨by decide +kernel, rfl⟩
theorem d_X5_partnerOf_48 : kf_dq cX5_partnerOf 48 51 3 (.iinc 4 1) := ⟨by decide +kernel, rfl⟩
theorem d_X5_partnerOf_51 : kf_dj cX5_partnerOf 51 54 8 .goto := ⟨(-43), by decide +kernel, rfl, by decide⟩
theorem d_X5_partnerOf_54 : kf_dq cX5_partnerOf 54 55 1 (.iload_n 3) := ⟨by decide +kernel, rfl⟩
theorem d_X5_partnerOf_55 : kf_dq cX5_partnerOf 55 56 1 (.ireturn) := ⟨by decide +kernel, rfl⟩
def f_X5_partnerOf_46 (rec8 : Nat → Int32 → Int32 → Int32 → Int32 → kf_St → Option (Int32 × kf_St)) (v0 : Nat) (v1 : Int32) (v3 : Int32) (v4 : Int32) (s0 : Int32) (s1 : Int32) (σ : kf_St) : Option (Int32 × kf_St) :=
  kf_lt ((s0 ||| s1)) fun v2_1 =>
  kf_lt (v4 + 1) fun v4_2 =>
  rec8 v0 v1 v2_1 v3 v4_2 σ
set_option maxRecDepth 100000 in
set_option maxHeartbeats 4000000 in
theorem b_X5_partnerOf_46 {X : kf_X} {G : kf_G} {rec8 : Nat → Int32 → Int32 → Int32 → Int32 → kf_St → Option (Int32 × kf_St)} {q : (Int32 × kf_St)} (E : kf_ok X G cX5_partnerOf RX5 5 (some .int) (5)) (hty : kf_wt G) (hrec8 : ∀ (v0 : Nat) (v1 : Int32) (v2 : Int32) (v3 : Int32) (v4 : Int32) (k_v0 : kf_kd G v0 = 6) (σ : kf_St), rec8 v0 v1 v2 v3 v4 σ = some q → kf_WA X G 5 (kf_Q X G (some (.int q.1)) q.2) 8 [(0, .ref (kf_ad G v0)), (1, .int v1), (2, .int v2), (3, .int v3), (4, .int v4)] [] σ) (v0 : Nat) (v1 : Int32) (v3 : Int32) (v4 : Int32) (s0 : Int32) (s1 : Int32) (k_v0 : kf_kd G v0 = 6) (σ : kf_St) (h : f_X5_partnerOf_46 rec8 v0 v1 v3 v4 s0 s1 σ = some q) : kf_WA X G 5 (kf_Q X G (some (.int q.1)) q.2) 46 [(0, .ref (kf_ad G v0)), (1, .int v1), (3, .int v3), (4, .int v4)] [.int s1, .int s0] σ := by
  unfold f_X5_partnerOf_46 at h
  refine wa_ior E d_X5_partnerOf_46 ?_
  obtain ⟨v2_1, ev2_1, h⟩ := kf_lte h
  refine wa_topi ev2_1 ?_
  refine wa_istore_n (lv' := [(2, .int v2_1), (0, .ref (kf_ad G v0)), (1, .int v1), (3, .int v3), (4, .int v4)]) rfl (by decide) rfl E d_X5_partnerOf_47 ?_
  obtain ⟨v4_2, ev4_2, h⟩ := kf_lte h
  refine wa_iinc (lv' := [(4, .int v4_2), (2, .int v2_1), (0, .ref (kf_ad G v0)), (1, .int v1), (3, .int v3)]) v4_2 4 rfl (kf_inc ic_1 ev4_2) (by decide) rfl E d_X5_partnerOf_48 ?_
  refine wa_goto E d_X5_partnerOf_51 ?_
  refine wa_sub [2, 3, 1, 4, 0] rfl ?_
  exact hrec8 v0 v1 v2_1 v3 v4_2 k_v0 σ h
def f_X5_partnerOf_8_s (rec8 : Nat → Int32 → Int32 → Int32 → Int32 → kf_St → Option (Int32 × kf_St)) (v0 : Nat) (v1 : Int32) (v2 : Int32) (v3 : Int32) (v4 : Int32) (σ : kf_St) : Option (Int32 × kf_St) :=
  if v1 < v4 then
    some (v3, σ)
  else
    if (σ.1 (kf_rf v0 0) 0) ≤ v4 then
      some (v3, σ)
    else
      (f_X5_partnerAmongFree v0 v4 v2 σ).bind fun q_3 =>
      if 0 ≤ q_3.1 then
        f_X5_partnerOf_46 rec8 v0 v1 q_3.1 v4 v2 ((1 : Int32) <<< (q_3.1 &&& 31)) q_3.2
      else
        f_X5_partnerOf_46 rec8 v0 v1 q_3.1 v4 v2 0 q_3.2
def f_X5_partnerOf_8 : Nat → Nat → Int32 → Int32 → Int32 → Int32 → kf_St → Option (Int32 × kf_St)
  | 0, _, _, _, _, _, _ => none
  | n + 1, v0, v1, v2, v3, v4, σ => f_X5_partnerOf_8_s (f_X5_partnerOf_8 n) v0 v1 v2 v3 v4 σ
set_option maxRecDepth 100000 in
set_option maxHeartbeats 4000000 in
theorem b_X5_partnerOf_8_s {X : kf_X} {G : kf_G} (rec8 : Nat → Int32 → Int32 → Int32 → Int32 → kf_St → Option (Int32 × kf_St)) {q : (Int32 × kf_St)} (E : kf_ok X G cX5_partnerOf RX5 5 (some .int) (5)) (hty : kf_wt G) (hrec8 : ∀ (v0 : Nat) (v1 : Int32) (v2 : Int32) (v3 : Int32) (v4 : Int32) (k_v0 : kf_kd G v0 = 6) (σ : kf_St), rec8 v0 v1 v2 v3 v4 σ = some q → kf_WA X G 5 (kf_Q X G (some (.int q.1)) q.2) 8 [(0, .ref (kf_ad G v0)), (1, .int v1), (2, .int v2), (3, .int v3), (4, .int v4)] [] σ) (v0 : Nat) (v1 : Int32) (v2 : Int32) (v3 : Int32) (v4 : Int32) (k_v0 : kf_kd G v0 = 6) (σ : kf_St) (h : f_X5_partnerOf_8_s rec8 v0 v1 v2 v3 v4 σ = some q) : kf_WA X G 5 (kf_Q X G (some (.int q.1)) q.2) 8 [(0, .ref (kf_ad G v0)), (1, .int v1), (2, .int v2), (3, .int v3), (4, .int v4)] [] σ := by
  unfold f_X5_partnerOf_8_s at h
  refine wa_iload 4 rfl E d_X5_partnerOf_8 ?_
  refine wa_iload_n 1 rfl E d_X5_partnerOf_10 ?_
  refine wa_icmp_gt E d_X5_partnerOf_11 (fun c_1 => ?_) (fun c_1 => ?_)
  · replace h := kf_ift c_1 h
    refine wa_iload_n 3 rfl E d_X5_partnerOf_54 ?_
    cases h
    exact wa_iret E d_X5_partnerOf_55
  · replace h := kf_iff c_1 h
    refine wa_iload 4 rfl E d_X5_partnerOf_14 ?_
    refine wa_aload_n 0 rfl E d_X5_partnerOf_16 ?_
    refine wa_getR fl_X5_9 k_v0 rfl E d_X5_partnerOf_17 ?_
    refine wa_getI fl_X5_23 (kf_wtf hty 0 10 k_v0 (by decide) rfl) rfl E d_X5_partnerOf_20 ?_
    refine wa_icmp_ge E d_X5_partnerOf_23 (fun c_2 => ?_) (fun c_2 => ?_)
    · replace h := kf_ift c_2 h
      refine wa_iload_n 3 rfl E d_X5_partnerOf_54 ?_
      cases h
      exact wa_iret E d_X5_partnerOf_55
    · replace h := kf_iff c_2 h
      refine wa_aload_n 0 rfl E d_X5_partnerOf_26 ?_
      refine wa_iload 4 rfl E d_X5_partnerOf_27 ?_
      refine wa_iload_n 2 rfl E d_X5_partnerOf_29 ?_
      obtain ⟨q_3, hq_3, h⟩ := kf_bd h
      refine wa_callV (st2 := [.int q_3.1]) (c_X5_partnerAmongFree hty v0 v4 v2 k_v0 σ hq_3) mv_X5_partnerAmongFree ml_X5_60 k_v0 rfl (Nat.le_of_ble_eq_true rfl) rfl (Nat.le_of_ble_eq_true rfl) E d_X5_partnerOf_30 rfl ?_
      refine wa_istore_n (lv' := [(3, .int q_3.1), (0, .ref (kf_ad G v0)), (1, .int v1), (2, .int v2), (4, .int v4)]) rfl (by decide) rfl E d_X5_partnerOf_33 ?_
      refine wa_iload_n 3 rfl E d_X5_partnerOf_34 ?_
      refine wa_iload_n 0 rfl E d_X5_partnerOf_35 ?_
      refine wa_if_ge E d_X5_partnerOf_36 (fun c_4 => ?_) (fun c_4 => ?_)
      · replace h := kf_ift c_4 h
        refine wa_iconst 1 ic_1 E d_X5_partnerOf_43 ?_
        refine wa_iload_n 0 rfl E d_X5_partnerOf_44 ?_
        refine wa_ishl E d_X5_partnerOf_45 ?_
        refine wa_sub [1, 2, 0, 4] rfl ?_
        exact b_X5_partnerOf_46 E hty hrec8 v0 v1 q_3.1 v4 v2 ((1 : Int32) <<< (q_3.1 &&& 31)) k_v0 q_3.2 h
      · replace h := kf_iff c_4 h
        refine wa_iconst 0 ic_0 E d_X5_partnerOf_39 ?_
        refine wa_goto E d_X5_partnerOf_40 ?_
        refine wa_sub [1, 2, 0, 4] rfl ?_
        exact b_X5_partnerOf_46 E hty hrec8 v0 v1 q_3.1 v4 v2 0 k_v0 q_3.2 h
theorem b_X5_partnerOf_8 {X : kf_X} {G : kf_G} {q : (Int32 × kf_St)} (E : kf_ok X G cX5_partnerOf RX5 5 (some .int) (5)) (hty : kf_wt G) : ∀ (N : Nat) (v0 : Nat) (v1 : Int32) (v2 : Int32) (v3 : Int32) (v4 : Int32) (k_v0 : kf_kd G v0 = 6) (σ : kf_St) (_ : f_X5_partnerOf_8 N v0 v1 v2 v3 v4 σ = some q), kf_WA X G 5 (kf_Q X G (some (.int q.1)) q.2) 8 [(0, .ref (kf_ad G v0)), (1, .int v1), (2, .int v2), (3, .int v3), (4, .int v4)] [] σ
  | 0, _, _, _, _, _, _, _, h => by cases h
  | N + 1, v0, v1, v2, v3, v4, k_v0, σ, h => b_X5_partnerOf_8_s _ E hty (b_X5_partnerOf_8 E hty N) v0 v1 v2 v3 v4 k_v0 σ h
def f_X5_partnerOf (v0 : Nat) (v1 : Int32) (σ : kf_St) : Option (Int32 × kf_St) :=
  f_X5_partnerOf_8 kf_F v0 v1 0 (-2) 0 σ
set_option maxRecDepth 100000 in
set_option maxHeartbeats 4000000 in
theorem c_X5_partnerOf {G : kf_G} (hty : kf_wt G) (v0 : Nat) (v1 : Int32) (k_v0 : kf_kd G v0 = 6) (σ : kf_St) {q : (Int32 × kf_St)} (h : f_X5_partnerOf v0 v1 σ = some q) : kf_Ct (5) yX5_partnerOf cX5_partnerOf 5 (some .int) G [.ref (kf_ad G v0), .int v1] σ (some (.int q.1)) q.2 := by
  refine kf_Ct.of hty.1 (lv := [(0, .ref (kf_ad G v0)), (1, .int v1)]) (by decide +kernel) rfl (Nat.le_of_ble_eq_true rfl) (fun X E => ?_)
  unfold f_X5_partnerOf at h
  refine wa_iconst 0 ic_0 E d_X5_partnerOf_0 ?_
  refine wa_istore_n (lv' := [(2, .int 0), (0, .ref (kf_ad G v0)), (1, .int v1)]) rfl (by decide) rfl E d_X5_partnerOf_1 ?_
  refine wa_bipush (-2) bp_m2 E d_X5_partnerOf_2 ?_
  refine wa_istore_n (lv' := [(3, .int (-2)), (2, .int 0), (0, .ref (kf_ad G v0)), (1, .int v1)]) rfl (by decide) rfl E d_X5_partnerOf_4 ?_
  refine wa_iconst 0 ic_0 E d_X5_partnerOf_5 ?_
  refine wa_istore (lv' := [(4, .int 0), (3, .int (-2)), (2, .int 0), (0, .ref (kf_ad G v0)), (1, .int v1)]) (by decide) rfl E d_X5_partnerOf_6 ?_
  refine wa_sub [3, 4, 2, 1, 0] rfl ?_
  exact b_X5_partnerOf_8 E hty kf_F v0 v1 0 (-2) 0 k_v0 σ h
/-! X10_setLaw -/
theorem d_X10_setLaw_0 : kf_dq cX10_setLaw 0 1 1 (.aload_n 0) := ⟨by decide +kernel, rfl⟩
theorem d_X10_setLaw_1 : kf_dq cX10_setLaw 1 4 3 (.invokevirtual 76) := ⟨by decide +kernel, rfl⟩
theorem d_X10_setLaw_4 : kf_dq cX10_setLaw 4 5 1 (.aload_n 0) := ⟨by decide +kernel, rfl⟩
theorem d_X10_setLaw_5 : kf_dq cX10_setLaw 5 6 1 (.iconst 0) := ⟨by decide +kernel, rfl⟩
theorem d_X10_setLaw_6 : kf_dq cX10_setLaw 6 7 1 (.iload_n 1) := ⟨by decide +kernel, rfl⟩
theorem d_X10_setLaw_7 : kf_dq cX10_setLaw 7 10 3 (.invokevirtual 77) := ⟨by decide +kernel, rfl⟩
theorem d_X10_setLaw_10 : kf_dq cX10_setLaw 10 11 1 (.aload_n 0) := ⟨by decide +kernel, rfl⟩
theorem d_X10_setLaw_11 : kf_dq cX10_setLaw 11 13 2 (.bipush 7) := ⟨by decide +kernel, rfl⟩
theorem d_X10_setLaw_13 : kf_dq cX10_setLaw 13 14 1 (.iconst 0) := ⟨by decide +kernel, rfl⟩
theorem d_X10_setLaw_14 : kf_dq cX10_setLaw 14 17 3 (.invokevirtual 77) := ⟨by decide +kernel, rfl⟩
theorem d_X10_setLaw_17 : kf_dq cX10_setLaw 17 18 1 (.return_) := ⟨by decide +kernel, rfl⟩
def f_X10_setLaw (v0 : Nat) (v1 : Int32) (σ : kf_St) : Option kf_St :=
  (f_X2_clear v0 σ).bind fun q_1 =>
  (f_X2_put v0 0 v1 q_1).bind fun q_2 =>
  (f_X2_put v0 7 0 q_2).bind fun q_3 =>
  some q_3
set_option maxRecDepth 100000 in
set_option maxHeartbeats 4000000 in
theorem c_X10_setLaw {G : kf_G} (hty : kf_wt G) (v0 : Nat) (v1 : Int32) (k_v0 : kf_kd G v0 = 3) (σ : kf_St) {q : kf_St} (h : f_X10_setLaw v0 v1 σ = some q) : kf_Ct (2) yX10_setLaw cX10_setLaw 2 none G [.ref (kf_ad G v0), .int v1] σ none q := by
  refine kf_Ct.of hty.1 (lv := [(0, .ref (kf_ad G v0)), (1, .int v1)]) (by decide +kernel) rfl (Nat.le_of_ble_eq_true rfl) (fun X E => ?_)
  unfold f_X10_setLaw at h
  refine wa_aload_n 0 rfl E d_X10_setLaw_0 ?_
  obtain ⟨q_1, hq_1, h⟩ := kf_bd h
  refine wa_callV (st2 := []) (c_X2_clear hty v0 k_v0 σ hq_1) mv_X2_clear ml_X10_76 k_v0 rfl (Nat.le_of_ble_eq_true rfl) rfl (Nat.le_of_ble_eq_true rfl) E d_X10_setLaw_1 rfl ?_
  refine wa_aload_n 0 rfl E d_X10_setLaw_4 ?_
  refine wa_iconst 0 ic_0 E d_X10_setLaw_5 ?_
  refine wa_iload_n 1 rfl E d_X10_setLaw_6 ?_
  obtain ⟨q_2, hq_2, h⟩ := kf_bd h
  refine wa_callV (st2 := []) (c_X2_put hty v0 0 v1 k_v0 q_1 hq_2) mv_X2_put ml_X10_77 k_v0 rfl (Nat.le_of_ble_eq_true rfl) rfl (Nat.le_of_ble_eq_true rfl) E d_X10_setLaw_7 rfl ?_
  refine wa_aload_n 0 rfl E d_X10_setLaw_10 ?_
  refine wa_bipush 7 bp_7 E d_X10_setLaw_11 ?_
  refine wa_iconst 0 ic_0 E d_X10_setLaw_13 ?_
  obtain ⟨q_3, hq_3, h⟩ := kf_bd h
  refine wa_callV (st2 := []) (c_X2_put hty v0 7 0 k_v0 q_2 hq_3) mv_X2_put ml_X10_77 k_v0 rfl (Nat.le_of_ble_eq_true rfl) rfl (Nat.le_of_ble_eq_true rfl) E d_X10_setLaw_14 rfl ?_
  cases h
  exact wa_vret E d_X10_setLaw_17
/-! X10_clear -/
theorem d_X10_clear_0 : kf_dq cX10_clear 0 1 1 (.aload_n 0) := ⟨by decide +kernel, rfl⟩
theorem d_X10_clear_1 : kf_dq cX10_clear 1 2 1 (.iconst 0) := ⟨by decide +kernel, rfl⟩
theorem d_X10_clear_2 : kf_dq cX10_clear 2 5 3 (.putfield 53) := ⟨by decide +kernel, rfl⟩
theorem d_X10_clear_5 : kf_dq cX10_clear 5 6 1 (.aload_n 0) := ⟨by decide +kernel, rfl⟩
theorem d_X10_clear_6 : kf_dq cX10_clear 6 7 1 (.iconst 0) := ⟨by decide +kernel, rfl⟩
theorem d_X10_clear_7 : kf_dq cX10_clear 7 10 3 (.putfield 57) := ⟨by decide +kernel, rfl⟩
theorem d_X10_clear_10 : kf_dq cX10_clear 10 11 1 (.aload_n 0) := ⟨by decide +kernel, rfl⟩
theorem d_X10_clear_11 : kf_dq cX10_clear 11 12 1 (.iconst 0) := ⟨by decide +kernel, rfl⟩
theorem d_X10_clear_12 : kf_dq cX10_clear 12 15 3 (.putfield 60) := ⟨by decide +kernel, rfl⟩
theorem d_X10_clear_15 : kf_dq cX10_clear 15 16 1 (.aload_n 0) := ⟨by decide +kernel, rfl⟩
theorem d_X10_clear_16 : kf_dq cX10_clear 16 17 1 (.iconst 0) := ⟨by decide +kernel, rfl⟩
theorem d_X10_clear_17 : kf_dq cX10_clear 17 20 3 (.putfield 63) := ⟨by decide +kernel, rfl⟩
theorem d_X10_clear_20 : kf_dq cX10_clear 20 21 1 (.aload_n 0) := ⟨by decide +kernel, rfl⟩
theorem d_X10_clear_21 : kf_dq cX10_clear 21 23 2 (.bipush 40) := ⟨by decide +kernel, rfl⟩
theorem d_X10_clear_23 : kf_dq cX10_clear 23 26 3 (.putfield 66) := ⟨by decide +kernel, rfl⟩
theorem d_X10_clear_26 : kf_dq cX10_clear 26 27 1 (.aload_n 0) := ⟨by decide +kernel, rfl⟩
theorem d_X10_clear_27 : kf_dq cX10_clear 27 28 1 (.iconst 0) := ⟨by decide +kernel, rfl⟩
theorem d_X10_clear_28 : kf_dq cX10_clear 28 31 3 (.putfield 69) := ⟨by decide +kernel, rfl⟩
theorem d_X10_clear_31 : kf_dq cX10_clear 31 32 1 (.aload_n 0) := ⟨by decide +kernel, rfl⟩
theorem d_X10_clear_32 : kf_dq cX10_clear 32 35 3 (.getfield 40) := ⟨by decide +kernel, rfl⟩
theorem d_X10_clear_35 : kf_dq cX10_clear 35 36 1 (.iconst 1) := ⟨by decide +kernel, rfl⟩
theorem d_X10_clear_36 : kf_dq cX10_clear 36 39 3 (.invokestatic 72) := ⟨by decide +kernel, rfl⟩
theorem d_X10_clear_39 : kf_dq cX10_clear 39 40 1 (.aload_n 0) := ⟨by decide +kernel, rfl⟩
theorem d_X10_clear_40 : kf_dq cX10_clear 40 43 3 (.getfield 44) := ⟨by decide +kernel, rfl⟩
theorem d_X10_clear_43 : kf_dq cX10_clear 43 44 1 (.iconst 0) := ⟨by decide +kernel, rfl⟩
theorem d_X10_clear_44 : kf_dq cX10_clear 44 47 3 (.invokestatic 72) := ⟨by decide +kernel, rfl⟩
theorem d_X10_clear_47 : kf_dq cX10_clear 47 48 1 (.aload_n 0) := ⟨by decide +kernel, rfl⟩
theorem d_X10_clear_48 : kf_dq cX10_clear 48 51 3 (.getfield 47) := ⟨by decide +kernel, rfl⟩
theorem d_X10_clear_51 : kf_dq cX10_clear 51 52 1 (.iconst 1) := ⟨by decide +kernel, rfl⟩
theorem d_X10_clear_52 : kf_dq cX10_clear 52 55 3 (.invokestatic 72) := ⟨by decide +kernel, rfl⟩
theorem d_X10_clear_55 : kf_dq cX10_clear 55 56 1 (.return_) := ⟨by decide +kernel, rfl⟩
def f_X10_clear (v0 : Nat) (σ : kf_St) : Option kf_St :=
  kf_lt (kf_wi σ v0 0 0) fun σ_1 =>
  kf_lt (kf_wi σ_1 v0 1 0) fun σ_2 =>
  kf_lt (kf_wi σ_2 v0 2 0) fun σ_3 =>
  kf_lt (kf_wi σ_3 v0 3 0) fun σ_4 =>
  kf_lt (kf_wi σ_4 v0 4 40) fun σ_5 =>
  kf_lt (kf_wi σ_5 v0 5 0) fun σ_6 =>
  (f_X10_setLaw (kf_rf v0 14) 1 σ_6).bind fun q_7 =>
  (f_X10_setLaw (kf_rf v0 15) 0 q_7).bind fun q_8 =>
  (f_X10_setLaw (kf_rf v0 16) 1 q_8).bind fun q_9 =>
  some q_9
set_option maxRecDepth 100000 in
set_option maxHeartbeats 4000000 in
theorem c_X10_clear {G : kf_G} (hty : kf_wt G) (v0 : Nat) (k_v0 : kf_kd G v0 = 11) (σ : kf_St) {q : kf_St} (h : f_X10_clear v0 σ = some q) : kf_Ct (3) yX10_clear cX10_clear 1 none G [.ref (kf_ad G v0)] σ none q := by
  refine kf_Ct.of hty.1 (lv := [(0, .ref (kf_ad G v0))]) (by decide +kernel) rfl (Nat.le_of_ble_eq_true rfl) (fun X E => ?_)
  unfold f_X10_clear at h
  refine wa_aload_n 0 rfl E d_X10_clear_0 ?_
  refine wa_iconst 0 ic_0 E d_X10_clear_1 ?_
  obtain ⟨σ_1, eσ_1, h⟩ := kf_lte h
  refine wa_putI fl_X10_53 fp_10_0 k_v0 rfl (by decide) rfl rfl E d_X10_clear_2 eσ_1 ?_
  refine wa_aload_n 0 rfl E d_X10_clear_5 ?_
  refine wa_iconst 0 ic_0 E d_X10_clear_6 ?_
  obtain ⟨σ_2, eσ_2, h⟩ := kf_lte h
  refine wa_putI fl_X10_57 fp_10_1 k_v0 rfl (by decide) rfl rfl E d_X10_clear_7 eσ_2 ?_
  refine wa_aload_n 0 rfl E d_X10_clear_10 ?_
  refine wa_iconst 0 ic_0 E d_X10_clear_11 ?_
  obtain ⟨σ_3, eσ_3, h⟩ := kf_lte h
  refine wa_putI fl_X10_60 fp_10_2 k_v0 rfl (by decide) rfl rfl E d_X10_clear_12 eσ_3 ?_
  refine wa_aload_n 0 rfl E d_X10_clear_15 ?_
  refine wa_iconst 0 ic_0 E d_X10_clear_16 ?_
  obtain ⟨σ_4, eσ_4, h⟩ := kf_lte h
  refine wa_putI fl_X10_63 fp_10_3 k_v0 rfl (by decide) rfl rfl E d_X10_clear_17 eσ_4 ?_
  refine wa_aload_n 0 rfl E d_X10_clear_20 ?_
  refine wa_bipush 40 bp_40 E d_X10_clear_21 ?_
  obtain ⟨σ_5, eσ_5, h⟩ := kf_lte h
  refine wa_putI fl_X10_66 fp_10_4 k_v0 rfl (by decide) rfl rfl E d_X10_clear_23 eσ_5 ?_
  refine wa_aload_n 0 rfl E d_X10_clear_26 ?_
  refine wa_iconst 0 ic_0 E d_X10_clear_27 ?_
  obtain ⟨σ_6, eσ_6, h⟩ := kf_lte h
  refine wa_putI fl_X10_69 fp_10_5 k_v0 rfl (by decide) rfl rfl E d_X10_clear_28 eσ_6 ?_
  refine wa_aload_n 0 rfl E d_X10_clear_31 ?_
  refine wa_getR fl_X10_40 k_v0 rfl E d_X10_clear_32 ?_
  refine wa_iconst 1 ic_1 E d_X10_clear_35 ?_
  obtain ⟨q_7, hq_7, h⟩ := kf_bd h
  refine wa_callS (st2 := []) (c_X10_setLaw hty (kf_rf v0 14) 1 (kf_wtf hty 14 2 k_v0 (by decide) rfl) σ_6 hq_7) mt_X10_setLaw ml_X10_72 rfl (Nat.le_of_ble_eq_true rfl) rfl (Nat.le_of_ble_eq_true rfl) E d_X10_clear_36 rfl ?_
  refine wa_aload_n 0 rfl E d_X10_clear_39 ?_
  refine wa_getR fl_X10_44 k_v0 rfl E d_X10_clear_40 ?_
  refine wa_iconst 0 ic_0 E d_X10_clear_43 ?_
  obtain ⟨q_8, hq_8, h⟩ := kf_bd h
  refine wa_callS (st2 := []) (c_X10_setLaw hty (kf_rf v0 15) 0 (kf_wtf hty 15 2 k_v0 (by decide) rfl) q_7 hq_8) mt_X10_setLaw ml_X10_72 rfl (Nat.le_of_ble_eq_true rfl) rfl (Nat.le_of_ble_eq_true rfl) E d_X10_clear_44 rfl ?_
  refine wa_aload_n 0 rfl E d_X10_clear_47 ?_
  refine wa_getR fl_X10_47 k_v0 rfl E d_X10_clear_48 ?_
  refine wa_iconst 1 ic_1 E d_X10_clear_51 ?_
  obtain ⟨q_9, hq_9, h⟩ := kf_bd h
  refine wa_callS (st2 := []) (c_X10_setLaw hty (kf_rf v0 16) 1 (kf_wtf hty 16 2 k_v0 (by decide) rfl) q_8 hq_9) mt_X10_setLaw ml_X10_72 rfl (Nat.le_of_ble_eq_true rfl) rfl (Nat.le_of_ble_eq_true rfl) E d_X10_clear_52 rfl ?_
  cases h
  exact wa_vret E d_X10_clear_55
/-! X8_byteAt -/
theorem d_X8_byteAt_0 : kf_dq cX8_byteAt 0 1 1 (.iload_n 1) := ⟨by decide +kernel, rfl⟩
theorem d_X8_byteAt_1 : kf_dj cX8_byteAt 1 4 34 (.ifCond .lt) := ⟨33, by decide +kernel, rfl, by decide⟩
theorem d_X8_byteAt_4 : kf_dq cX8_byteAt 4 5 1 (.iload_n 1) := ⟨by decide +kernel, rfl⟩
theorem d_X8_byteAt_5 : kf_dq cX8_byteAt 5 6 1 (.aload_n 0) := ⟨by decide +kernel, rfl⟩
theorem d_X8_byteAt_6 : kf_dq cX8_byteAt 6 9 3 (.getfield 51) := ⟨by decide +kernel, rfl⟩
theorem d_X8_byteAt_9 : kf_dj cX8_byteAt 9 12 34 (.if_icmp .ge) := ⟨25, by decide +kernel, rfl, by decide⟩
theorem d_X8_byteAt_12 : kf_dq cX8_byteAt 12 13 1 (.iload_n 1) := ⟨by decide +kernel, rfl⟩
theorem d_X8_byteAt_13 : kf_dq cX8_byteAt 13 14 1 (.aload_n 0) := ⟨by decide +kernel, rfl⟩
theorem d_X8_byteAt_14 : kf_dq cX8_byteAt 14 17 3 (.getfield 11) := ⟨by decide +kernel, rfl⟩
theorem d_X8_byteAt_17 : kf_dq cX8_byteAt 17 18 1 (.arraylength) := ⟨by decide +kernel, rfl⟩
theorem d_X8_byteAt_18 : kf_dj cX8_byteAt 18 21 34 (.if_icmp .ge) := ⟨16, by decide +kernel, rfl, by decide⟩
theorem d_X8_byteAt_21 : kf_dq cX8_byteAt 21 22 1 (.aload_n 0) := ⟨by decide +kernel, rfl⟩
theorem d_X8_byteAt_22 : kf_dq cX8_byteAt 22 25 3 (.getfield 11) := ⟨by decide +kernel, rfl⟩
theorem d_X8_byteAt_25 : kf_dq cX8_byteAt 25 26 1 (.iload_n 1) := ⟨by decide +kernel, rfl⟩
theorem d_X8_byteAt_26 : kf_dq cX8_byteAt 26 27 1 (.baload) := ⟨by decide +kernel, rfl⟩
theorem d_X8_byteAt_27 : kf_dq cX8_byteAt 27 30 3 (.sipush 255) := ⟨by decide +kernel, rfl⟩
theorem d_X8_byteAt_30 : kf_dq cX8_byteAt 30 31 1 (.iand) := ⟨by decide +kernel, rfl⟩
theorem d_X8_byteAt_31 : kf_dj cX8_byteAt 31 34 35 .goto := ⟨4, by decide +kernel, rfl, by decide⟩
theorem d_X8_byteAt_34 : kf_dq cX8_byteAt 34 35 1 (.iconst (-1)) := ⟨by decide +kernel, rfl⟩
theorem d_X8_byteAt_35 : kf_dq cX8_byteAt 35 36 1 (.ireturn) := ⟨by decide +kernel, rfl⟩
def f_X8_byteAt (v0 : Nat) (v1 : Int32) (σ : kf_St) : Option (Int32 × kf_St) :=
  if v1 < 0 then
    some ((-1), σ)
  else
    if (σ.1 v0 0) ≤ v1 then
      some ((-1), σ)
    else
      if (nI (kf_ln (kf_rf v0 1))) ≤ v1 then
        some ((-1), σ)
      else
        if kf_ix v1 (kf_ln (kf_rf v0 1)) = true then
        some (((σ.1 (kf_rf v0 1) (Int32.toNatClampNeg v1)) &&& 255), σ)
        else none
set_option maxRecDepth 100000 in
set_option maxHeartbeats 4000000 in
theorem c_X8_byteAt {G : kf_G} (hty : kf_wt G) (v0 : Nat) (v1 : Int32) (k_v0 : kf_kd G v0 = 9) (σ : kf_St) {q : (Int32 × kf_St)} (h : f_X8_byteAt v0 v1 σ = some q) : kf_Ct (1) yX8_byteAt cX8_byteAt 2 (some .int) G [.ref (kf_ad G v0), .int v1] σ (some (.int q.1)) q.2 := by
  refine kf_Ct.of hty.1 (lv := [(0, .ref (kf_ad G v0)), (1, .int v1)]) (by decide +kernel) rfl (Nat.le_of_ble_eq_true rfl) (fun X E => ?_)
  unfold f_X8_byteAt at h
  refine wa_iload_n 1 rfl E d_X8_byteAt_0 ?_
  refine wa_if_lt E d_X8_byteAt_1 (fun c_1 => ?_) (fun c_1 => ?_)
  · replace h := kf_ift c_1 h
    refine wa_iconst (-1) ic_m1 E d_X8_byteAt_34 ?_
    cases h
    exact wa_iret E d_X8_byteAt_35
  · replace h := kf_iff c_1 h
    refine wa_iload_n 1 rfl E d_X8_byteAt_4 ?_
    refine wa_aload_n 0 rfl E d_X8_byteAt_5 ?_
    refine wa_getI fl_X8_51 k_v0 rfl E d_X8_byteAt_6 ?_
    refine wa_icmp_ge E d_X8_byteAt_9 (fun c_2 => ?_) (fun c_2 => ?_)
    · replace h := kf_ift c_2 h
      refine wa_iconst (-1) ic_m1 E d_X8_byteAt_34 ?_
      cases h
      exact wa_iret E d_X8_byteAt_35
    · replace h := kf_iff c_2 h
      refine wa_iload_n 1 rfl E d_X8_byteAt_12 ?_
      refine wa_aload_n 0 rfl E d_X8_byteAt_13 ?_
      refine wa_getR fl_X8_11 k_v0 rfl E d_X8_byteAt_14 ?_
      refine wa_alen_b (kf_wtf hty 1 51 k_v0 (by decide) rfl) E d_X8_byteAt_17 ?_
      refine wa_icmp_ge E d_X8_byteAt_18 (fun c_3 => ?_) (fun c_3 => ?_)
      · replace h := kf_ift c_3 h
        refine wa_iconst (-1) ic_m1 E d_X8_byteAt_34 ?_
        cases h
        exact wa_iret E d_X8_byteAt_35
      · replace h := kf_iff c_3 h
        refine wa_aload_n 0 rfl E d_X8_byteAt_21 ?_
        refine wa_getR fl_X8_11 k_v0 rfl E d_X8_byteAt_22 ?_
        refine wa_iload_n 1 rfl E d_X8_byteAt_25 ?_
        obtain ⟨g_4, h⟩ := kf_gd h
        refine wa_bald (kf_wtf hty 1 51 k_v0 (by decide) rfl) g_4 E d_X8_byteAt_26 ?_
        refine wa_sipush 255 sp_255 E d_X8_byteAt_27 ?_
        refine wa_iand E d_X8_byteAt_30 ?_
        refine wa_goto E d_X8_byteAt_31 ?_
        cases h
        exact wa_iret E d_X8_byteAt_35
