theorem mi_J0_charAt_5068e : kf_mi yJ0_charAt_5068e cJ0_charAt_5068e 2 (some .char) 1 := ⟨kf_ly1 53 (by decide +kernel) rfl, kf_ly1 3 (by decide +kernel) rfl, ⟨by decide +kernel, by decide +kernel, by decide +kernel⟩, by decide⟩
theorem mj_J0_charAt_5068e : kf_mj yJ0_charAt_5068e cJ0_charAt_5068e 2 (some .char) 1 := ⟨mi_J0_charAt_5068e, kf_ly1 51 (by decide +kernel) rfl, kf_ly1 52 (by decide +kernel) rfl, rfl⟩
theorem mi_J0_checkIndex_df160 : kf_mi yJ0_checkIndex_df160 cJ0_checkIndex_df160 2 none 2 := ⟨kf_ly1 63 (by decide +kernel) rfl, kf_ly1 3 (by decide +kernel) rfl, ⟨by decide +kernel, by decide +kernel, by decide +kernel⟩, by decide⟩
theorem mt_J0_checkIndex_df160 : kf_mt yJ0_checkIndex_df160 cJ0_checkIndex_df160 2 none 2 := ⟨mi_J0_checkIndex_df160, kf_ly1 62 (by decide +kernel) rfl⟩
theorem mi_J1_charAt_3b067 : kf_mi yJ1_charAt_3b067 cJ1_charAt_3b067 2 (some .char) 2 := ⟨kf_ly1 60 (by decide +kernel) rfl, kf_ly1 4 (by decide +kernel) rfl, ⟨by decide +kernel, by decide +kernel, by decide +kernel⟩, by decide⟩
theorem mt_J1_charAt_3b067 : kf_mt yJ1_charAt_3b067 cJ1_charAt_3b067 2 (some .char) 2 := ⟨mi_J1_charAt_3b067, kf_ly1 59 (by decide +kernel) rfl⟩
theorem mi_J3_checkIndex_8e157 : kf_mi yJ3_checkIndex_8e157 cJ3_checkIndex_8e157 3 (some .int) 3 := ⟨kf_ly1 68 (by decide +kernel) rfl, kf_ly1 5 (by decide +kernel) rfl, ⟨by decide +kernel, by decide +kernel, by decide +kernel⟩, by decide⟩
theorem mt_J3_checkIndex_8e157 : kf_mt yJ3_checkIndex_8e157 cJ3_checkIndex_8e157 3 (some .int) 3 := ⟨mi_J3_checkIndex_8e157, kf_ly1 67 (by decide +kernel) rfl⟩
theorem ml_J0_1059 : Cond.methodLink RJ0 1059 yJ3_checkIndex_8e157 ∈ kf_T := kf_ly1 66 (by decide +kernel) rfl
theorem ml_J0_495 : Cond.methodLink RJ0 495 yJ1_charAt_3b067 ∈ kf_T := kf_ly1 58 (by decide +kernel) rfl
theorem ml_J1_9 : Cond.methodLink RJ1 9 yJ0_checkIndex_df160 ∈ kf_T := kf_ly1 61 (by decide +kernel) rfl
theorem ml_X8_35 : Cond.methodLink RX8 35 yJ0_length_8abf5 ∈ kf_T := kf_ly1 40 (by decide +kernel) rfl
theorem ml_X8_41 : Cond.methodLink RX8 41 yJ0_charAt_5068e ∈ kf_T := kf_ly1 50 (by decide +kernel) rfl
theorem sfl_J0_1053 : Cond.fieldLink RJ0 1053 "jdk/internal/util/Preconditions" "SIOOBE_FORMATTER" "Ljava/util/function/BiFunction;" ∈ kf_T := kf_ly1 64 (by decide +kernel) rfl
theorem d_J3_checkIndex_8e157_0 : kf_dq cJ3_checkIndex_8e157 0 1 1 (.iload_n 0) := ⟨by decide +kernel, rfl⟩
theorem d_J3_checkIndex_8e157_1 : kf_dj cJ3_checkIndex_8e157 1 4 9 (.ifCond .lt) := ⟨8, by decide +kernel, rfl, by decide⟩
theorem d_J3_checkIndex_8e157_4 : kf_dq cJ3_checkIndex_8e157 4 5 1 (.iload_n 0) := ⟨by decide +kernel, rfl⟩
theorem d_J3_checkIndex_8e157_5 : kf_dq cJ3_checkIndex_8e157 5 6 1 (.iload_n 1) := ⟨by decide +kernel, rfl⟩
theorem d_J3_checkIndex_8e157_6 : kf_dj cJ3_checkIndex_8e157 6 9 16 (.if_icmp .lt) := ⟨10, by decide +kernel, rfl, by decide⟩
theorem d_J3_checkIndex_8e157_16 : kf_dq cJ3_checkIndex_8e157 16 17 1 (.iload_n 0) := ⟨by decide +kernel, rfl⟩
theorem d_J3_checkIndex_8e157_17 : kf_dq cJ3_checkIndex_8e157 17 18 1 (.ireturn) := ⟨by decide +kernel, rfl⟩
theorem d_J0_checkIndex_df160_0 : kf_dq cJ0_checkIndex_df160 0 1 1 (.iload_n 0) := ⟨by decide +kernel, rfl⟩
theorem d_J0_checkIndex_df160_1 : kf_dq cJ0_checkIndex_df160 1 2 1 (.iload_n 1) := ⟨by decide +kernel, rfl⟩
theorem d_J0_checkIndex_df160_2 : kf_dq cJ0_checkIndex_df160 2 5 3 (.getstatic 1053) := ⟨by decide +kernel, rfl⟩
theorem d_J0_checkIndex_df160_5 : kf_dq cJ0_checkIndex_df160 5 8 3 (.invokestatic 1059) := ⟨by decide +kernel, rfl⟩
theorem d_J0_checkIndex_df160_8 : kf_dq cJ0_checkIndex_df160 8 9 1 (.pop) := ⟨by decide +kernel, rfl⟩
theorem d_J0_checkIndex_df160_9 : kf_dq cJ0_checkIndex_df160 9 10 1 (.return_) := ⟨by decide +kernel, rfl⟩
def kf_zc (v : Int32) : Bool := decide (v = (v.toUInt32 % 65536).toInt32)
theorem kf_zcn {v : Int32} (h : kf_zc v = true) : narrow .char (.int v) = .int v := by
  have e := of_decide_eq_true (p := v = (v.toUInt32 % 65536).toInt32) h
  have h2 := kf_c_n v
  rw [← e] at h2
  exact h2
set_option maxRecDepth 100000 in
theorem c_J3_checkIndex_8e157 {G : kf_G} (hinj : kf_inj G) (v0 v1 : Int32) (z : Value) (hz : z = .null ∨ ∃ t, z = .ref t) (h0 : ¬ v0 < 0) (h1 : v0 < v1) (σ : kf_St) : kf_Ct 1 yJ3_checkIndex_8e157 cJ3_checkIndex_8e157 3 (some .int) G [.int v0, .int v1, z] σ (some (.int v0)) σ := by
  rcases hz with rfl | ⟨t, rfl⟩
  · refine kf_Ct.of hinj (lv := [(0, .int v0), (1, .int v1), (2, .null)]) (by decide +kernel) rfl (Nat.le_of_ble_eq_true rfl) (fun X E => ?_)
    refine wa_iload_n 0 rfl E d_J3_checkIndex_8e157_0 ?_
    refine wa_if_lt E d_J3_checkIndex_8e157_1 (fun c => absurd c h0) (fun _ => ?_)
    refine wa_iload_n 0 rfl E d_J3_checkIndex_8e157_4 ?_
    refine wa_iload_n 1 rfl E d_J3_checkIndex_8e157_5 ?_
    refine wa_icmp_lt E d_J3_checkIndex_8e157_6 (fun _ => ?_) (fun c => absurd h1 c)
    refine wa_iload_n 0 rfl E d_J3_checkIndex_8e157_16 ?_
    exact wa_iret E d_J3_checkIndex_8e157_17
  · refine kf_Ct.of hinj (lv := [(0, .int v0), (1, .int v1), (2, .ref t)]) (by decide +kernel) rfl (Nat.le_of_ble_eq_true rfl) (fun X E => ?_)
    refine wa_iload_n 0 rfl E d_J3_checkIndex_8e157_0 ?_
    refine wa_if_lt E d_J3_checkIndex_8e157_1 (fun c => absurd c h0) (fun _ => ?_)
    refine wa_iload_n 0 rfl E d_J3_checkIndex_8e157_4 ?_
    refine wa_iload_n 1 rfl E d_J3_checkIndex_8e157_5 ?_
    refine wa_icmp_lt E d_J3_checkIndex_8e157_6 (fun _ => ?_) (fun c => absurd h1 c)
    refine wa_iload_n 0 rfl E d_J3_checkIndex_8e157_16 ?_
    exact wa_iret E d_J3_checkIndex_8e157_17
set_option maxRecDepth 100000 in
theorem c_J0_checkIndex_df160 {G : kf_G} (hinj : kf_inj G) (v0 v1 : Int32) (h0 : ¬ v0 < 0) (h1 : v0 < v1) (σ : kf_St) : kf_Ct 2 yJ0_checkIndex_df160 cJ0_checkIndex_df160 2 none G [.int v0, .int v1] σ none σ := by
  refine kf_Ct.of hinj (lv := [(0, .int v0), (1, .int v1)]) (by decide +kernel) rfl (Nat.le_of_ble_eq_true rfl) (fun X E => ?_)
  refine wa_iload_n 0 rfl E d_J0_checkIndex_df160_0 ?_
  refine wa_iload_n 1 rfl E d_J0_checkIndex_df160_1 ?_
  refine wa_gfmt sfl_J0_1053 E d_J0_checkIndex_df160_2 (fun z hz => ?_)
  refine wa_callS (st2 := [.int v0]) (c_J3_checkIndex_8e157 hinj v0 v1 z hz h0 h1 σ) mt_J3_checkIndex_8e157 ml_J0_1059 rfl (Nat.le_of_ble_eq_true rfl) rfl (Nat.le_of_ble_eq_true rfl) E d_J0_checkIndex_df160_5 rfl ?_
  refine wa_pop rfl E d_J0_checkIndex_df160_8 ?_
  exact wa_vret E d_J0_checkIndex_df160_9

theorem d_J1_charAt_3b067_0 : kf_dq cJ1_charAt_3b067 0 1 1 (.iload_n 1) := ⟨by decide +kernel, rfl⟩
theorem d_J1_charAt_3b067_1 : kf_dq cJ1_charAt_3b067 1 2 1 (.aload_n 0) := ⟨by decide +kernel, rfl⟩
theorem d_J1_charAt_3b067_2 : kf_dq cJ1_charAt_3b067 2 3 1 (.arraylength) := ⟨by decide +kernel, rfl⟩
theorem d_J1_charAt_3b067_3 : kf_dq cJ1_charAt_3b067 3 6 3 (.invokestatic 9) := ⟨by decide +kernel, rfl⟩
theorem d_J1_charAt_3b067_6 : kf_dq cJ1_charAt_3b067 6 7 1 (.aload_n 0) := ⟨by decide +kernel, rfl⟩
theorem d_J1_charAt_3b067_7 : kf_dq cJ1_charAt_3b067 7 8 1 (.iload_n 1) := ⟨by decide +kernel, rfl⟩
theorem d_J1_charAt_3b067_8 : kf_dq cJ1_charAt_3b067 8 9 1 (.baload) := ⟨by decide +kernel, rfl⟩
theorem d_J1_charAt_3b067_9 : kf_dq cJ1_charAt_3b067 9 12 3 (.sipush 255) := ⟨by decide +kernel, rfl⟩
theorem d_J1_charAt_3b067_12 : kf_dq cJ1_charAt_3b067 12 13 1 (.iand) := ⟨by decide +kernel, rfl⟩
theorem d_J1_charAt_3b067_13 : kf_dq cJ1_charAt_3b067 13 14 1 (.i2c) := ⟨by decide +kernel, rfl⟩
theorem d_J1_charAt_3b067_14 : kf_dq cJ1_charAt_3b067 14 15 1 (.ireturn) := ⟨by decide +kernel, rfl⟩
def f_J1_charAt_3b067 (v0 : Nat) (v1 : Int32) (σ : kf_St) : Option (Int32 × kf_St) :=
  if ¬ v1 < 0 ∧ v1 < (nI (kf_len.getD v0 0)) then
  if kf_ix v1 (kf_len.getD v0 0) = true then
  some ((Int32.toUInt32 (((kf_byt.getD v0 []).getD (Int32.toNatClampNeg v1) 0) &&& 255) % 65536).toInt32, σ)
  else none
  else none
set_option maxRecDepth 100000 in
set_option maxHeartbeats 4000000 in
theorem c_J1_charAt_3b067 {G : kf_G} (hty : kf_wt G) (v0 : Nat) (v1 : Int32) (k_v0 : v0 < 2) (σ : kf_St) {q : (Int32 × kf_St)} (h : f_J1_charAt_3b067 v0 v1 σ = some q) : kf_Ct (3) yJ1_charAt_3b067 cJ1_charAt_3b067 2 (some .char) G [.ref (kf_tv G v0), .int v1] σ (some (.int q.1)) q.2 := by
  refine kf_Ct.of hty.1 (lv := [(0, .ref (kf_tv G v0)), (1, .int v1)]) (by decide +kernel) rfl (Nat.le_of_ble_eq_true rfl) (fun X E => ?_)
  unfold f_J1_charAt_3b067 at h
  refine wa_iload_n 1 rfl E d_J1_charAt_3b067_0 ?_
  refine wa_aload_n 0 rfl E d_J1_charAt_3b067_1 ?_
  refine wa_tlen k_v0 E d_J1_charAt_3b067_2 ?_
  obtain ⟨g_1, h⟩ := kf_gd h
  refine wa_callS (st2 := []) (c_J0_checkIndex_df160 hty.1 v1 (nI (kf_len.getD v0 0)) g_1.1 g_1.2 σ) mt_J0_checkIndex_df160 ml_J1_9 rfl (Nat.le_of_ble_eq_true rfl) rfl (Nat.le_of_ble_eq_true rfl) E d_J1_charAt_3b067_3 rfl ?_
  refine wa_aload_n 0 rfl E d_J1_charAt_3b067_6 ?_
  refine wa_iload_n 1 rfl E d_J1_charAt_3b067_7 ?_
  obtain ⟨g_2, h⟩ := kf_gd h
  refine wa_tald k_v0 g_2 E d_J1_charAt_3b067_8 ?_
  refine wa_sipush 255 sp_255 E d_J1_charAt_3b067_9 ?_
  refine wa_iand E d_J1_charAt_3b067_12 ?_
  refine wa_i2c E d_J1_charAt_3b067_13 ?_
  cases h
  exact wa_zret (kf_c_n _) E d_J1_charAt_3b067_14
theorem d_J0_charAt_5068e_0 : kf_dq cJ0_charAt_5068e 0 1 1 (.aload_n 0) := ⟨by decide +kernel, rfl⟩
theorem d_J0_charAt_5068e_1 : kf_dq cJ0_charAt_5068e 1 4 3 (.invokevirtual 492) := ⟨by decide +kernel, rfl⟩
theorem d_J0_charAt_5068e_4 : kf_dj cJ0_charAt_5068e 4 7 16 (.ifCond .eq) := ⟨12, by decide +kernel, rfl, by decide⟩
theorem d_J0_charAt_5068e_7 : kf_dq cJ0_charAt_5068e 7 8 1 (.aload_n 0) := ⟨by decide +kernel, rfl⟩
theorem d_J0_charAt_5068e_8 : kf_dq cJ0_charAt_5068e 8 11 3 (.getfield 9) := ⟨by decide +kernel, rfl⟩
theorem d_J0_charAt_5068e_11 : kf_dq cJ0_charAt_5068e 11 12 1 (.iload_n 1) := ⟨by decide +kernel, rfl⟩
theorem d_J0_charAt_5068e_12 : kf_dq cJ0_charAt_5068e 12 15 3 (.invokestatic 495) := ⟨by decide +kernel, rfl⟩
theorem d_J0_charAt_5068e_15 : kf_dq cJ0_charAt_5068e 15 16 1 (.ireturn) := ⟨by decide +kernel, rfl⟩
def f_J0_charAt_5068e (v0 : Nat) (v1 : Int32) (σ : kf_St) : Option (Int32 × kf_St) :=
    (f_J1_charAt_3b067 v0 v1 σ).bind fun q_3 =>
    if kf_zc q_3.1 = true then some (q_3.1, q_3.2) else none
set_option maxRecDepth 100000 in
set_option maxHeartbeats 4000000 in
theorem c_J0_charAt_5068e {G : kf_G} (hty : kf_wt G) (v0 : Nat) (v1 : Int32) (k_v0 : v0 < 2) (σ : kf_St) {q : (Int32 × kf_St)} (h : f_J0_charAt_5068e v0 v1 σ = some q) : kf_Ct (4) yJ0_charAt_5068e cJ0_charAt_5068e 2 (some .char) G [.ref (kf_tk G v0), .int v1] σ (some (.int q.1)) q.2 := by
  refine kf_Ct.of hty.1 (lv := [(0, .ref (kf_tk G v0)), (1, .int v1)]) (by decide +kernel) rfl (Nat.le_of_ble_eq_true rfl) (fun X E => ?_)
  unfold f_J0_charAt_5068e at h
  refine wa_aload_n 0 rfl E d_J0_charAt_5068e_0 ?_
  refine wa_callT (st2 := [.int 1]) (σ' := σ) (o := some (.int 1)) (c_J0_isLatin1_aae02 hty v0 k_v0 σ (q := (1, σ)) rfl) mj_J0_isLatin1_aae02 ml_J0_492 k_v0 rfl (Nat.le_of_ble_eq_true rfl) rfl (Nat.le_of_ble_eq_true rfl) E d_J0_charAt_5068e_1 rfl ?_
  refine wa_if_eq E d_J0_charAt_5068e_4 (fun c_2 => ?_) (fun c_2 => ?_)
  · exact absurd c_2 (by decide)
  · clear c_2
    refine wa_aload_n 0 rfl E d_J0_charAt_5068e_7 ?_
    refine wa_gval k_v0 sfl_J0_9 E d_J0_charAt_5068e_8 ?_
    refine wa_iload_n 1 rfl E d_J0_charAt_5068e_11 ?_
    obtain ⟨q_3, hq_3, h⟩ := kf_bd h
    refine wa_callS (st2 := [.int q_3.1]) (c_J1_charAt_3b067 hty v0 v1 k_v0 σ hq_3) mt_J1_charAt_3b067 ml_J0_495 rfl (Nat.le_of_ble_eq_true rfl) rfl (Nat.le_of_ble_eq_true rfl) E d_J0_charAt_5068e_12 rfl ?_
    obtain ⟨g_4, h⟩ := kf_gd h
    cases h
    exact wa_zret (kf_zcn g_4) E d_J0_charAt_5068e_15
theorem d_X8_codesOfWords_9 : kf_dq cX8_codesOfWords 9 10 1 (.iload_n 2) := ⟨by decide +kernel, rfl⟩
theorem d_X8_codesOfWords_10 : kf_dq cX8_codesOfWords 10 12 2 (.ldc 33) := ⟨by decide +kernel, rfl⟩
theorem d_X8_codesOfWords_12 : kf_dq cX8_codesOfWords 12 15 3 (.invokevirtual 35) := ⟨by decide +kernel, rfl⟩
theorem d_X8_codesOfWords_15 : kf_dj cX8_codesOfWords 15 18 59 (.if_icmp .ge) := ⟨44, by decide +kernel, rfl, by decide⟩
theorem d_X8_codesOfWords_18 : kf_dq cX8_codesOfWords 18 19 1 (.iload_n 1) := ⟨by decide +kernel, rfl⟩
theorem d_X8_codesOfWords_19 : kf_dq cX8_codesOfWords 19 20 1 (.aload_n 0) := ⟨by decide +kernel, rfl⟩
theorem d_X8_codesOfWords_20 : kf_dq cX8_codesOfWords 20 21 1 (.arraylength) := ⟨by decide +kernel, rfl⟩
theorem d_X8_codesOfWords_21 : kf_dj cX8_codesOfWords 21 24 59 (.if_icmp .ge) := ⟨38, by decide +kernel, rfl, by decide⟩
theorem d_X8_codesOfWords_24 : kf_dq cX8_codesOfWords 24 26 2 (.ldc 33) := ⟨by decide +kernel, rfl⟩
theorem d_X8_codesOfWords_26 : kf_dq cX8_codesOfWords 26 27 1 (.iload_n 2) := ⟨by decide +kernel, rfl⟩
theorem d_X8_codesOfWords_27 : kf_dq cX8_codesOfWords 27 30 3 (.invokevirtual 41) := ⟨by decide +kernel, rfl⟩
theorem d_X8_codesOfWords_30 : kf_dq cX8_codesOfWords 30 31 1 (.istore_n 3) := ⟨by decide +kernel, rfl⟩
theorem d_X8_codesOfWords_31 : kf_dq cX8_codesOfWords 31 32 1 (.iload_n 3) := ⟨by decide +kernel, rfl⟩
theorem d_X8_codesOfWords_32 : kf_dq cX8_codesOfWords 32 34 2 (.bipush 32) := ⟨by decide +kernel, rfl⟩
theorem d_X8_codesOfWords_34 : kf_dj cX8_codesOfWords 34 37 43 (.if_icmp .ne) := ⟨9, by decide +kernel, rfl, by decide⟩
theorem d_X8_codesOfWords_37 : kf_dq cX8_codesOfWords 37 40 3 (.iinc 1 1) := ⟨by decide +kernel, rfl⟩
theorem d_X8_codesOfWords_40 : kf_dj cX8_codesOfWords 40 43 53 .goto := ⟨13, by decide +kernel, rfl, by decide⟩
theorem d_X8_codesOfWords_43 : kf_dq cX8_codesOfWords 43 44 1 (.aload_n 0) := ⟨by decide +kernel, rfl⟩
theorem d_X8_codesOfWords_44 : kf_dq cX8_codesOfWords 44 45 1 (.iload_n 1) := ⟨by decide +kernel, rfl⟩
theorem d_X8_codesOfWords_45 : kf_dq cX8_codesOfWords 45 46 1 (.aload_n 0) := ⟨by decide +kernel, rfl⟩
theorem d_X8_codesOfWords_46 : kf_dq cX8_codesOfWords 46 47 1 (.iload_n 1) := ⟨by decide +kernel, rfl⟩
theorem d_X8_codesOfWords_47 : kf_dq cX8_codesOfWords 47 48 1 (.laload) := ⟨by decide +kernel, rfl⟩
theorem d_X8_codesOfWords_48 : kf_dq cX8_codesOfWords 48 49 1 (.iload_n 3) := ⟨by decide +kernel, rfl⟩
theorem d_X8_codesOfWords_49 : kf_dq cX8_codesOfWords 49 52 3 (.invokestatic 45) := ⟨by decide +kernel, rfl⟩
theorem d_X8_codesOfWords_52 : kf_dq cX8_codesOfWords 52 53 1 (.lastore) := ⟨by decide +kernel, rfl⟩
theorem d_X8_codesOfWords_53 : kf_dq cX8_codesOfWords 53 56 3 (.iinc 2 1) := ⟨by decide +kernel, rfl⟩
theorem d_X8_codesOfWords_56 : kf_dj cX8_codesOfWords 56 59 9 .goto := ⟨(-47), by decide +kernel, rfl, by decide⟩
theorem d_X8_codesOfWords_59 : kf_dq cX8_codesOfWords 59 60 1 (.aload_n 0) := ⟨by decide +kernel, rfl⟩
theorem d_X8_codesOfWords_60 : kf_dq cX8_codesOfWords 60 61 1 (.areturn) := ⟨by decide +kernel, rfl⟩
theorem d_X8_codesOfWords_0 : kf_dq cX8_codesOfWords 0 2 2 (.bipush 21) := ⟨by decide +kernel, rfl⟩
theorem d_X8_codesOfWords_2 : kf_dq cX8_codesOfWords 2 4 2 (.newarray .long) := ⟨by decide +kernel, rfl⟩
theorem d_X8_codesOfWords_4 : kf_dq cX8_codesOfWords 4 5 1 (.astore_n 0) := ⟨by decide +kernel, rfl⟩
theorem d_X8_codesOfWords_5 : kf_dq cX8_codesOfWords 5 6 1 (.iconst 0) := ⟨by decide +kernel, rfl⟩
theorem d_X8_codesOfWords_6 : kf_dq cX8_codesOfWords 6 7 1 (.istore_n 1) := ⟨by decide +kernel, rfl⟩
theorem d_X8_codesOfWords_7 : kf_dq cX8_codesOfWords 7 8 1 (.iconst 0) := ⟨by decide +kernel, rfl⟩
theorem d_X8_codesOfWords_8 : kf_dq cX8_codesOfWords 8 9 1 (.istore_n 2) := ⟨by decide +kernel, rfl⟩
def f_X8_codesOfWords_53 (rec9 : Nat → Int32 → Int32 → kf_St → Option kf_St) (v0 : Nat) (v1 : Int32) (v2 : Int32) (σ : kf_St) : Option kf_St :=
  kf_lt (v2 + 1) fun v2_1 =>
  rec9 v0 v1 v2_1 σ
set_option maxRecDepth 100000 in
set_option maxHeartbeats 4000000 in
theorem b_X8_codesOfWords_53 {X : kf_X} {G : kf_G} {Q : State → Prop} {rec9 : Nat → Int32 → Int32 → kf_St → Option kf_St} {q : kf_St} (E : kf_ok X G cX8_codesOfWords RX8 4 (some (.array .long)) (6)) (hty : kf_wt G) (hend : ∀ {pc pc1 : Nat} (_ : kf_dq cX8_codesOfWords pc pc1 1 .areturn) (lv : List (Nat × Value)) (v0 : Nat), kf_WA X G 4 Q pc lv [.ref (kf_ad G v0)] q) (hrec9 : ∀ (v0 : Nat) (v1 : Int32) (v2 : Int32) (k_v0 : kf_kd G v0 = 51) (σ : kf_St), rec9 v0 v1 v2 σ = some q → kf_WA X G 4 Q 9 [(0, .ref (kf_ad G v0)), (1, .int v1), (2, .int v2)] [] σ) (v0 : Nat) (v1 : Int32) (v2 : Int32) (k_v0 : kf_kd G v0 = 51) (σ : kf_St) (h : f_X8_codesOfWords_53 rec9 v0 v1 v2 σ = some q) : kf_WA X G 4 Q 53 [(0, .ref (kf_ad G v0)), (1, .int v1), (2, .int v2)] [] σ := by
  unfold f_X8_codesOfWords_53 at h
  obtain ⟨v2_1, ev2_1, h⟩ := kf_lte h
  refine wa_iinc (lv' := [(2, .int v2_1), (0, .ref (kf_ad G v0)), (1, .int v1)]) v2_1 2 rfl (kf_inc ic_1 ev2_1) (by decide) rfl E d_X8_codesOfWords_53 ?_
  refine wa_goto E d_X8_codesOfWords_56 ?_
  refine wa_sub [1, 2, 0] rfl ?_
  exact hrec9 v0 v1 v2_1 k_v0 σ h
def f_X8_codesOfWords_9_s (rec9 : Nat → Int32 → Int32 → kf_St → Option kf_St) (v0 : Nat) (v1 : Int32) (v2 : Int32) (σ : kf_St) : Option kf_St :=
  if ((nI (kf_len.getD 0 0)) >>> (0 &&& 31)) ≤ v2 then
    some σ
  else
    if (nI (kf_ln v0)) ≤ v1 then
      some σ
    else
      (f_J0_charAt_5068e 0 v2 σ).bind fun q_4 =>
      if q_4.1 = 32 then
        kf_lt (v1 + 1) fun v1_10 =>
        f_X8_codesOfWords_53 rec9 v0 v1_10 v2 q_4.2
      else
        if kf_ix v1 (kf_ln v0) = true then
        (f_X8_withLetter (q_4.2.2 v0 (Int32.toNatClampNeg v1)) q_4.1 q_4.2).bind fun q_7 =>
        if kf_ix v1 (kf_ln v0) = true then
        kf_lt (kf_wl q_7.2 v0 (Int32.toNatClampNeg v1) q_7.1) fun σ_9 =>
        f_X8_codesOfWords_53 rec9 v0 v1 v2 σ_9
        else none
        else none
def f_X8_codesOfWords_9 : Nat → Nat → Int32 → Int32 → kf_St → Option kf_St
  | 0, _, _, _, _ => none
  | n + 1, v0, v1, v2, σ => f_X8_codesOfWords_9_s (f_X8_codesOfWords_9 n) v0 v1 v2 σ
set_option maxRecDepth 100000 in
set_option maxHeartbeats 4000000 in
theorem b_X8_codesOfWords_9_s {X : kf_X} {G : kf_G} {Q : State → Prop} (rec9 : Nat → Int32 → Int32 → kf_St → Option kf_St) {q : kf_St} (E : kf_ok X G cX8_codesOfWords RX8 4 (some (.array .long)) (6)) (hty : kf_wt G) (hend : ∀ {pc pc1 : Nat} (_ : kf_dq cX8_codesOfWords pc pc1 1 .areturn) (lv : List (Nat × Value)) (v0 : Nat), kf_WA X G 4 Q pc lv [.ref (kf_ad G v0)] q) (hrec9 : ∀ (v0 : Nat) (v1 : Int32) (v2 : Int32) (k_v0 : kf_kd G v0 = 51) (σ : kf_St), rec9 v0 v1 v2 σ = some q → kf_WA X G 4 Q 9 [(0, .ref (kf_ad G v0)), (1, .int v1), (2, .int v2)] [] σ) (v0 : Nat) (v1 : Int32) (v2 : Int32) (k_v0 : kf_kd G v0 = 51) (σ : kf_St) (h : f_X8_codesOfWords_9_s rec9 v0 v1 v2 σ = some q) : kf_WA X G 4 Q 9 [(0, .ref (kf_ad G v0)), (1, .int v1), (2, .int v2)] [] σ := by
  unfold f_X8_codesOfWords_9_s at h
  refine wa_iload_n 2 rfl E d_X8_codesOfWords_9 ?_
  refine wa_ldcS (i := 0) E.2.2.2.2.2.2.2.2.1.2.1 E d_X8_codesOfWords_10 ?_
  refine wa_callT (st2 := [.int ((nI (kf_len.getD 0 0)) >>> (0 &&& 31)), .int v2]) (σ' := σ) (o := some (.int ((nI (kf_len.getD 0 0)) >>> (0 &&& 31)))) (c_J0_length_8abf5 hty 0 (by decide) σ (q := (((nI (kf_len.getD 0 0)) >>> (0 &&& 31)), σ)) rfl) mj_J0_length_8abf5 ml_X8_35 (by decide) rfl (Nat.le_of_ble_eq_true rfl) rfl (Nat.le_of_ble_eq_true rfl) E d_X8_codesOfWords_12 rfl ?_
  refine wa_icmp_ge E d_X8_codesOfWords_15 (fun c_2 => ?_) (fun c_2 => ?_)
  · replace h := kf_ift c_2 h
    refine wa_aload_n 0 rfl E d_X8_codesOfWords_59 ?_
    cases h
    exact hend d_X8_codesOfWords_60 _ _
  · replace h := kf_iff c_2 h
    refine wa_iload_n 1 rfl E d_X8_codesOfWords_18 ?_
    refine wa_aload_n 0 rfl E d_X8_codesOfWords_19 ?_
    refine wa_alen_l k_v0 E d_X8_codesOfWords_20 ?_
    refine wa_icmp_ge E d_X8_codesOfWords_21 (fun c_3 => ?_) (fun c_3 => ?_)
    · replace h := kf_ift c_3 h
      refine wa_aload_n 0 rfl E d_X8_codesOfWords_59 ?_
      cases h
      exact hend d_X8_codesOfWords_60 _ _
    · replace h := kf_iff c_3 h
      refine wa_ldcS (i := 0) E.2.2.2.2.2.2.2.2.1.2.1 E d_X8_codesOfWords_24 ?_
      refine wa_iload_n 2 rfl E d_X8_codesOfWords_26 ?_
      obtain ⟨q_4, hq_4, h⟩ := kf_bd h
      refine wa_callT (st2 := [.int q_4.1]) (c_J0_charAt_5068e hty 0 v2 (by decide) σ hq_4) mj_J0_charAt_5068e ml_X8_41 (by decide) rfl (Nat.le_of_ble_eq_true rfl) rfl (Nat.le_of_ble_eq_true rfl) E d_X8_codesOfWords_27 rfl ?_
      refine wa_istore_n (lv' := [(3, .int q_4.1), (0, .ref (kf_ad G v0)), (1, .int v1), (2, .int v2)]) rfl (by decide) rfl E d_X8_codesOfWords_30 ?_
      refine wa_iload_n 0 rfl E d_X8_codesOfWords_31 ?_
      refine wa_bipush 32 bp_32 E d_X8_codesOfWords_32 ?_
      refine wa_icmp_ne E d_X8_codesOfWords_34 (fun c_5 => ?_) (fun c_5 => ?_)
      · replace h := kf_iff c_5 h
        refine wa_aload_n 1 rfl E d_X8_codesOfWords_43 ?_
        refine wa_iload_n 2 rfl E d_X8_codesOfWords_44 ?_
        refine wa_aload_n 1 rfl E d_X8_codesOfWords_45 ?_
        refine wa_iload_n 2 rfl E d_X8_codesOfWords_46 ?_
        obtain ⟨g_6, h⟩ := kf_gd h
        refine wa_lald k_v0 g_6 E d_X8_codesOfWords_47 ?_
        refine wa_iload_n 0 rfl E d_X8_codesOfWords_48 ?_
        obtain ⟨q_7, hq_7, h⟩ := kf_bd h
        refine wa_callS (st2 := [.long q_7.1, .int v1, .ref (kf_ad G v0)]) (c_X8_withLetter hty (q_4.2.2 v0 (Int32.toNatClampNeg v1)) q_4.1 q_4.2 hq_7) mt_X8_withLetter ml_X8_45 rfl (Nat.le_of_ble_eq_true rfl) rfl (Nat.le_of_ble_eq_true rfl) E d_X8_codesOfWords_49 rfl ?_
        obtain ⟨g_8, h⟩ := kf_gd h
        obtain ⟨σ_9, eσ_9, h⟩ := kf_lte h
        refine wa_last k_v0 g_8 E d_X8_codesOfWords_52 eσ_9 ?_
        refine wa_sub [1, 2, 3] rfl ?_
        exact b_X8_codesOfWords_53 E hty hend hrec9 v0 v1 v2 k_v0 σ_9 h
      · replace h := kf_ift c_5 h
        obtain ⟨v1_10, ev1_10, h⟩ := kf_lte h
        refine wa_iinc (lv' := [(1, .int v1_10), (3, .int q_4.1), (0, .ref (kf_ad G v0)), (2, .int v2)]) v1_10 2 rfl (kf_inc ic_1 ev1_10) (by decide) rfl E d_X8_codesOfWords_37 ?_
        refine wa_goto E d_X8_codesOfWords_40 ?_
        refine wa_sub [2, 0, 3] rfl ?_
        exact b_X8_codesOfWords_53 E hty hend hrec9 v0 v1_10 v2 k_v0 q_4.2 h
theorem b_X8_codesOfWords_9 {X : kf_X} {G : kf_G} {Q : State → Prop} {q : kf_St} (E : kf_ok X G cX8_codesOfWords RX8 4 (some (.array .long)) (6)) (hty : kf_wt G) (hend : ∀ {pc pc1 : Nat} (_ : kf_dq cX8_codesOfWords pc pc1 1 .areturn) (lv : List (Nat × Value)) (v0 : Nat), kf_WA X G 4 Q pc lv [.ref (kf_ad G v0)] q) : ∀ (N : Nat) (v0 : Nat) (v1 : Int32) (v2 : Int32) (k_v0 : kf_kd G v0 = 51) (σ : kf_St) (_ : f_X8_codesOfWords_9 N v0 v1 v2 σ = some q), kf_WA X G 4 Q 9 [(0, .ref (kf_ad G v0)), (1, .int v1), (2, .int v2)] [] σ
  | 0, _, _, _, _, _, h => by cases h
  | N + 1, v0, v1, v2, k_v0, σ, h => b_X8_codesOfWords_9_s _ E hty hend (b_X8_codesOfWords_9 E hty hend N) v0 v1 v2 k_v0 σ h
