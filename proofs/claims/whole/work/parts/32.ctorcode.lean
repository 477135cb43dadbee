theorem oi_i : Cond.instanceMethod Lib.objectInit ∈ kf_T := kf_ly1 28 (by decide +kernel) rfl
theorem oi_c : Cond.code Lib.objectInit ⟨#[0xb1]⟩ 1 none ∈ kf_T := kf_ly1 29 (by decide +kernel) rfl
theorem ac_int : Cond.arrayClass .int ∈ kf_T := kf_ly1 124 (by decide +kernel) rfl
theorem ac_long : Cond.arrayClass .long ∈ kf_T := kf_ly1 123 (by decide +kernel) rfl
theorem ac_byte : Cond.arrayClass .byte ∈ kf_T := kf_ly1 122 (by decide +kernel) rfl
theorem ac_boolean : Cond.arrayClass .boolean ∈ kf_T := kf_ly6 203 (by decide +kernel) rfl
theorem ml_X0_25 : Cond.methodLink RX0 25 yX1_init ∈ kf_T := kf_ly2 173 (by decide +kernel) rfl
theorem ml_X7_17 : Cond.methodLink RX7 17 yX1_init ∈ kf_T := kf_ly2 61 (by decide +kernel) rfl
theorem sp_183 : (Int16.ofInt 183).toInt32 = 183 := by decide
theorem sp_224 : (Int16.ofInt 224).toInt32 = 224 := by decide
theorem sp_2440 : (Int16.ofInt 2440).toInt32 = 2440 := by decide
theorem sp_401 : (Int16.ofInt 401).toInt32 = 401 := by decide
theorem sp_624 : (Int16.ofInt 624).toInt32 = 624 := by decide
theorem ckl_X7_1 : Cond.classLink RX7 1 RX1 ∈ kf_T := kf_ly2 58 (by decide +kernel) rfl
theorem fpf_0_0 : kc_FPF 0 0 RX0 (.object "KnockerFaces$Town") := ⟨RX0, TX0, 5, tyX0, rfl, tyX0_ok, nmX0, rfl, rfl, by decide +kernel⟩
theorem fpf_0_1 : kc_FPF 0 1 RX0 (.object "KnockerFaces$Street") := ⟨RX0, TX0, 5, tyX0, rfl, tyX0_ok, nmX0, rfl, rfl, by decide +kernel⟩
theorem fpf_0_2 : kc_FPF 0 2 RX0 (.object "KnockerFaces$Mover") := ⟨RX0, TX0, 5, tyX0, rfl, tyX0_ok, nmX0, rfl, rfl, by decide +kernel⟩
theorem fpf_0_3 : kc_FPF 0 3 RX0 (.object "KnockerFaces$Knocker") := ⟨RX0, TX0, 5, tyX0, rfl, tyX0_ok, nmX0, rfl, rfl, by decide +kernel⟩
theorem fpf_0_4 : kc_FPF 0 4 RX0 (.array .int) := ⟨RX0, TX0, 5, tyX0, rfl, tyX0_ok, nmX0, rfl, rfl, by decide +kernel⟩
theorem fpf_1_0 : kc_FPF 1 0 RX1 (.array .int) := ⟨RX1, TX1, 6, tyX1, rfl, tyX1_ok, nmX1, rfl, rfl, by decide +kernel⟩
theorem fpf_2_1 : kc_FPF 2 1 RX2 (.array .int) := ⟨RX2, TX2, 3, tyX2, rfl, tyX2_ok, nmX2, rfl, rfl, by decide +kernel⟩
theorem fpf_2_2 : kc_FPF 2 2 RX2 (.array .int) := ⟨RX2, TX2, 3, tyX2, rfl, tyX2_ok, nmX2, rfl, rfl, by decide +kernel⟩
theorem fpf_3_3 : kc_FPF 3 3 RX3 (.array .int) := ⟨RX3, TX3, 5, tyX3, rfl, tyX3_ok, nmX3, rfl, rfl, by decide +kernel⟩
theorem fpf_3_4 : kc_FPF 3 4 RX3 (.array .int) := ⟨RX3, TX3, 5, tyX3, rfl, tyX3_ok, nmX3, rfl, rfl, by decide +kernel⟩
theorem fpf_4_0 : kc_FPF 4 0 RX4 (.object "KnockerFaces$Town") := ⟨RX4, TX4, 3, tyX4, rfl, tyX4_ok, nmX4, rfl, rfl, by decide +kernel⟩
theorem fpf_4_1 : kc_FPF 4 1 RX4 (.array .int) := ⟨RX4, TX4, 3, tyX4, rfl, tyX4_ok, nmX4, rfl, rfl, by decide +kernel⟩
theorem fpf_4_2 : kc_FPF 4 2 RX4 (.array .int) := ⟨RX4, TX4, 3, tyX4, rfl, tyX4_ok, nmX4, rfl, rfl, by decide +kernel⟩
theorem fpf_5_0 : kc_FPF 5 0 RX5 (.object "KnockerFaces$Town") := ⟨RX5, TX5, 3, tyX5, rfl, tyX5_ok, nmX5, rfl, rfl, by decide +kernel⟩
theorem fpf_5_1 : kc_FPF 5 1 RX5 (.object "KnockerFaces$Street") := ⟨RX5, TX5, 3, tyX5, rfl, tyX5_ok, nmX5, rfl, rfl, by decide +kernel⟩
theorem fpf_5_2 : kc_FPF 5 2 RX5 (.array .int) := ⟨RX5, TX5, 3, tyX5, rfl, tyX5_ok, nmX5, rfl, rfl, by decide +kernel⟩
theorem fpf_6_2 : kc_FPF 6 2 RX6 (.object "KnockerFaces$Tape") := ⟨RX6, TX6, 8, tyX6, rfl, tyX6_ok, nmX6, rfl, rfl, by decide +kernel⟩
theorem fpf_6_3 : kc_FPF 6 3 RX6 (.object "KnockerFaces$Town") := ⟨RX6, TX6, 8, tyX6, rfl, tyX6_ok, nmX6, rfl, rfl, by decide +kernel⟩
theorem fpf_7_0 : kc_FPF 7 0 RX7 (.array (.object "KnockerFaces$Knocker")) := ⟨RX7, TX7, 5, tyX7, rfl, tyX7_ok, nmX7, rfl, rfl, by decide +kernel⟩
theorem fpf_7_1 : kc_FPF 7 1 RX7 (.array .int) := ⟨RX7, TX7, 5, tyX7, rfl, tyX7_ok, nmX7, rfl, rfl, by decide +kernel⟩
theorem fpf_7_4 : kc_FPF 7 4 RX7 (.array .int) := ⟨RX7, TX7, 5, tyX7, rfl, tyX7_ok, nmX7, rfl, rfl, by decide +kernel⟩
theorem fpf_9_1 : kc_FPF 9 1 RX9 (.object "KnockerFaces$Town") := ⟨RX9, TX9, 8, tyX9, rfl, tyX9_ok, nmX9, rfl, rfl, by decide +kernel⟩
theorem fpf_9_2 : kc_FPF 9 2 RX9 (.object "KnockerFaces$Street") := ⟨RX9, TX9, 8, tyX9, rfl, tyX9_ok, nmX9, rfl, rfl, by decide +kernel⟩
theorem fpf_9_3 : kc_FPF 9 3 RX9 (.object "KnockerFaces$Mover") := ⟨RX9, TX9, 8, tyX9, rfl, tyX9_ok, nmX9, rfl, rfl, by decide +kernel⟩
theorem fpf_9_4 : kc_FPF 9 4 RX9 (.array .int) := ⟨RX9, TX9, 8, tyX9, rfl, tyX9_ok, nmX9, rfl, rfl, by decide +kernel⟩
theorem fpf_9_5 : kc_FPF 9 5 RX9 (.array .int) := ⟨RX9, TX9, 8, tyX9, rfl, tyX9_ok, nmX9, rfl, rfl, by decide +kernel⟩
theorem fpf_9_6 : kc_FPF 9 6 RX9 (.array .int) := ⟨RX9, TX9, 8, tyX9, rfl, tyX9_ok, nmX9, rfl, rfl, by decide +kernel⟩
theorem fpf_9_7 : kc_FPF 9 7 RX9 (.array .int) := ⟨RX9, TX9, 8, tyX9, rfl, tyX9_ok, nmX9, rfl, rfl, by decide +kernel⟩
theorem mn_X1_init : kc_mn yX1_init cX1_init 1 0 := ⟨⟨kf_ly2 63 (by decide +kernel) rfl, kf_ly1 11 (by decide +kernel) rfl, ⟨by decide +kernel, by decide +kernel, by decide +kernel⟩, by decide⟩, kf_ly2 62 (by decide +kernel) rfl, rfl⟩
theorem nw_X0_23 : kc_NW RX0 23 1 6 [.null, .int 0, .int 0, .int 0, .int 0, .int 0] := ⟨RX1, TX1, tyX1, rfl, in_1, tyX1_ok, kf_ly2 172 (by decide +kernel) rfl, kf_ly2 60 (by decide +kernel) rfl, kf_ly1 11 (by decide +kernel) rfl, by decide +kernel⟩
theorem nw_X7_1 : kc_NW RX7 1 1 6 [.null, .int 0, .int 0, .int 0, .int 0, .int 0] := ⟨RX1, TX1, tyX1, rfl, in_1, tyX1_ok, kf_ly2 58 (by decide +kernel) rfl, kf_ly2 60 (by decide +kernel) rfl, kf_ly1 11 (by decide +kernel) rfl, by decide +kernel⟩
theorem oml_X0_3 : Cond.methodLink RX0 3 Lib.objectInit ∈ kf_T := kf_ly2 171 (by decide +kernel) rfl
theorem oml_X1_3 : Cond.methodLink RX1 3 Lib.objectInit ∈ kf_T := kf_ly2 64 (by decide +kernel) rfl
theorem oml_X2_1 : Cond.methodLink RX2 1 Lib.objectInit ∈ kf_T := kf_ly1 136 (by decide +kernel) rfl
theorem oml_X3_1 : Cond.methodLink RX3 1 Lib.objectInit ∈ kf_T := kf_ly2 131 (by decide +kernel) rfl
theorem oml_X4_3 : Cond.methodLink RX4 3 Lib.objectInit ∈ kf_T := kf_ly2 155 (by decide +kernel) rfl
theorem oml_X5_3 : Cond.methodLink RX5 3 Lib.objectInit ∈ kf_T := kf_ly2 195 (by decide +kernel) rfl
theorem oml_X6_3 : Cond.methodLink RX6 3 Lib.objectInit ∈ kf_T := kf_ly2 24 (by decide +kernel) rfl
theorem oml_X7_5 : Cond.methodLink RX7 5 Lib.objectInit ∈ kf_T := kf_ly2 57 (by decide +kernel) rfl
theorem oml_X9_3 : Cond.methodLink RX9 3 Lib.objectInit ∈ kf_T := kf_ly2 211 (by decide +kernel) rfl
theorem d_X1_init_0 : kf_dq cX1_init 0 1 1 (.aload_n 0) := ⟨by decide +kernel, rfl⟩
theorem d_X1_init_1 : kf_dq cX1_init 1 4 3 (.invokespecial 3) := ⟨by decide +kernel, rfl⟩
theorem d_X1_init_4 : kf_dq cX1_init 4 5 1 (.aload_n 0) := ⟨by decide +kernel, rfl⟩
theorem d_X1_init_5 : kf_dq cX1_init 5 6 1 (.iconst 4) := ⟨by decide +kernel, rfl⟩
theorem d_X1_init_6 : kf_dq cX1_init 6 8 2 (.newarray .int) := ⟨by decide +kernel, rfl⟩
theorem d_X1_init_8 : kf_dq cX1_init 8 11 3 (.putfield 9) := ⟨by decide +kernel, rfl⟩
theorem d_X1_init_11 : kf_dq cX1_init 11 12 1 (.return_) := ⟨by decide +kernel, rfl⟩
set_option maxRecDepth 100000 in
set_option maxHeartbeats 8000000 in
theorem k_X1_init {G : kf_G} {B : Nat} (h0 : Nat) : kc_Ct 1 1 4 yX1_init cX1_init 1 none G B [.ref h0] [(h0, .inr (1, [.null, .int 0, .int 0, .int 0, .int 0, .int 0]))] (fun _ => none) (fun u => [(h0, .inr (1, [.ref (u 0), .int 0, .int 0, .int 0, .int 0, .int 0])), ((u 0), .inl (kf_aC G 0, 4, .inl (fun _ => 0)))]) := by
  refine kc_Ct.of (lv := [(0, .ref h0)]) (by decide +kernel) rfl (Nat.le_of_ble_eq_true rfl) (fun X wr E hname => ?_)
  refine wc_aload_n 0 rfl E d_X1_init_0 ?_
  refine wc_objInit oml_X1_3 oi_i oi_c (Nat.le_of_ble_eq_true rfl) (Nat.le_of_ble_eq_true rfl) E d_X1_init_1 ?_
  refine wc_aload_n 0 rfl E d_X1_init_4 ?_
  refine wc_iconst 4 ic_4 E d_X1_init_5 ?_
  refine wc_newa0 (N := 4) ac_int (by decide) (by decide) (by decide) (Nat.le_of_ble_eq_true rfl) (Nat.le_of_ble_eq_true rfl) E d_X1_init_6 (fun q1 => ?_)
  refine kc_tl (tl' := [(h0, .inr (1, [.null, .int 0, .int 0, .int 0, .int 0, .int 0])), (q1, .inl (kf_aC G 0, 4, .inl (fun _ => 0)))]) rfl ?_
  refine wc_putF (i := 0) (tl' := [(h0, .inr (1, [.ref q1, .int 0, .int 0, .int 0, .int 0, .int 0])), (q1, .inl (kf_aC G 0, 4, .inl (fun _ => 0)))]) fl_X1_9 fpf_1_0 hname rfl rfl rfl (Nat.le_of_ble_eq_true rfl) rfl E d_X1_init_8 ?_
  exact kc_vret (fun i => [q1].getD i 0) rfl rfl E d_X1_init_11
theorem d_X2_init_0 : kf_dq cX2_init 0 1 1 (.aload_n 0) := ⟨by decide +kernel, rfl⟩
theorem d_X2_init_1 : kf_dq cX2_init 1 4 3 (.invokespecial 1) := ⟨by decide +kernel, rfl⟩
theorem d_X2_init_4 : kf_dq cX2_init 4 5 1 (.aload_n 0) := ⟨by decide +kernel, rfl⟩
theorem d_X2_init_5 : kf_dq cX2_init 5 8 3 (.sipush 401) := ⟨by decide +kernel, rfl⟩
theorem d_X2_init_8 : kf_dq cX2_init 8 10 2 (.newarray .int) := ⟨by decide +kernel, rfl⟩
theorem d_X2_init_10 : kf_dq cX2_init 10 13 3 (.putfield 9) := ⟨by decide +kernel, rfl⟩
theorem d_X2_init_13 : kf_dq cX2_init 13 14 1 (.aload_n 0) := ⟨by decide +kernel, rfl⟩
theorem d_X2_init_14 : kf_dq cX2_init 14 16 2 (.bipush 20) := ⟨by decide +kernel, rfl⟩
theorem d_X2_init_16 : kf_dq cX2_init 16 18 2 (.newarray .int) := ⟨by decide +kernel, rfl⟩
theorem d_X2_init_18 : kf_dq cX2_init 18 21 3 (.putfield 15) := ⟨by decide +kernel, rfl⟩
theorem d_X2_init_21 : kf_dq cX2_init 21 22 1 (.return_) := ⟨by decide +kernel, rfl⟩
set_option maxRecDepth 100000 in
set_option maxHeartbeats 8000000 in
theorem k_X2_init {G : kf_G} {B : Nat} (h0 : Nat) : kc_Ct 1 2 421 yX2_init cX2_init 1 none G B [.ref h0] [(h0, .inr (2, [.int 0, .null, .null]))] (fun _ => none) (fun u => [(h0, .inr (2, [.int 0, .ref (u 0), .ref (u 1)])), ((u 0), .inl (kf_aC G 0, 401, .inl (fun _ => 0))), ((u 1), .inl (kf_aC G 0, 20, .inl (fun _ => 0)))]) := by
  refine kc_Ct.of (lv := [(0, .ref h0)]) (by decide +kernel) rfl (Nat.le_of_ble_eq_true rfl) (fun X wr E hname => ?_)
  refine wc_aload_n 0 rfl E d_X2_init_0 ?_
  refine wc_objInit oml_X2_1 oi_i oi_c (Nat.le_of_ble_eq_true rfl) (Nat.le_of_ble_eq_true rfl) E d_X2_init_1 ?_
  refine wc_aload_n 0 rfl E d_X2_init_4 ?_
  refine wc_sipush 401 sp_401 E d_X2_init_5 ?_
  refine wc_newa0 (N := 401) ac_int (by decide) (by decide) (by decide) (Nat.le_of_ble_eq_true rfl) (Nat.le_of_ble_eq_true rfl) E d_X2_init_8 (fun q1 => ?_)
  refine kc_tl (tl' := [(h0, .inr (2, [.int 0, .null, .null])), (q1, .inl (kf_aC G 0, 401, .inl (fun _ => 0)))]) rfl ?_
  refine wc_putF (i := 0) (tl' := [(h0, .inr (2, [.int 0, .ref q1, .null])), (q1, .inl (kf_aC G 0, 401, .inl (fun _ => 0)))]) fl_X2_9 fpf_2_1 hname rfl rfl rfl (Nat.le_of_ble_eq_true rfl) rfl E d_X2_init_10 ?_
  refine wc_aload_n 0 rfl E d_X2_init_13 ?_
  refine wc_bipush 20 bp_20 E d_X2_init_14 ?_
  refine wc_newa0 (N := 20) ac_int (by decide) (by decide) (by decide) (Nat.le_of_ble_eq_true rfl) (Nat.le_of_ble_eq_true rfl) E d_X2_init_16 (fun q2 => ?_)
  refine kc_tl (tl' := [(h0, .inr (2, [.int 0, .ref q1, .null])), (q1, .inl (kf_aC G 0, 401, .inl (fun _ => 0))), (q2, .inl (kf_aC G 0, 20, .inl (fun _ => 0)))]) rfl ?_
  refine wc_putF (i := 0) (tl' := [(h0, .inr (2, [.int 0, .ref q1, .ref q2])), (q1, .inl (kf_aC G 0, 401, .inl (fun _ => 0))), (q2, .inl (kf_aC G 0, 20, .inl (fun _ => 0)))]) fl_X2_15 fpf_2_2 hname rfl rfl rfl (Nat.le_of_ble_eq_true rfl) rfl E d_X2_init_18 ?_
  exact kc_vret (fun i => [q1, q2].getD i 0) rfl rfl E d_X2_init_21
theorem d_X3_init_0 : kf_dq cX3_init 0 1 1 (.aload_n 0) := ⟨by decide +kernel, rfl⟩
theorem d_X3_init_1 : kf_dq cX3_init 1 4 3 (.invokespecial 1) := ⟨by decide +kernel, rfl⟩
theorem d_X3_init_4 : kf_dq cX3_init 4 5 1 (.aload_n 0) := ⟨by decide +kernel, rfl⟩
theorem d_X3_init_5 : kf_dq cX3_init 5 8 3 (.sipush 2440) := ⟨by decide +kernel, rfl⟩
theorem d_X3_init_8 : kf_dq cX3_init 8 10 2 (.newarray .int) := ⟨by decide +kernel, rfl⟩
theorem d_X3_init_10 : kf_dq cX3_init 10 13 3 (.putfield 11) := ⟨by decide +kernel, rfl⟩
theorem d_X3_init_13 : kf_dq cX3_init 13 14 1 (.aload_n 0) := ⟨by decide +kernel, rfl⟩
theorem d_X3_init_14 : kf_dq cX3_init 14 17 3 (.sipush 183) := ⟨by decide +kernel, rfl⟩
theorem d_X3_init_17 : kf_dq cX3_init 17 19 2 (.newarray .int) := ⟨by decide +kernel, rfl⟩
theorem d_X3_init_19 : kf_dq cX3_init 19 22 3 (.putfield 15) := ⟨by decide +kernel, rfl⟩
theorem d_X3_init_22 : kf_dq cX3_init 22 23 1 (.return_) := ⟨by decide +kernel, rfl⟩
set_option maxRecDepth 100000 in
set_option maxHeartbeats 8000000 in
theorem k_X3_init {G : kf_G} {B : Nat} (h0 : Nat) : kc_Ct 1 2 2623 yX3_init cX3_init 1 none G B [.ref h0] [(h0, .inr (3, [.int 0, .int 0, .int 0, .null, .null]))] (fun _ => none) (fun u => [(h0, .inr (3, [.int 0, .int 0, .int 0, .ref (u 0), .ref (u 1)])), ((u 0), .inl (kf_aC G 0, 2440, .inl (fun _ => 0))), ((u 1), .inl (kf_aC G 0, 183, .inl (fun _ => 0)))]) := by
  refine kc_Ct.of (lv := [(0, .ref h0)]) (by decide +kernel) rfl (Nat.le_of_ble_eq_true rfl) (fun X wr E hname => ?_)
  refine wc_aload_n 0 rfl E d_X3_init_0 ?_
  refine wc_objInit oml_X3_1 oi_i oi_c (Nat.le_of_ble_eq_true rfl) (Nat.le_of_ble_eq_true rfl) E d_X3_init_1 ?_
  refine wc_aload_n 0 rfl E d_X3_init_4 ?_
  refine wc_sipush 2440 sp_2440 E d_X3_init_5 ?_
  refine wc_newa0 (N := 2440) ac_int (by decide) (by decide) (by decide) (Nat.le_of_ble_eq_true rfl) (Nat.le_of_ble_eq_true rfl) E d_X3_init_8 (fun q1 => ?_)
  refine kc_tl (tl' := [(h0, .inr (3, [.int 0, .int 0, .int 0, .null, .null])), (q1, .inl (kf_aC G 0, 2440, .inl (fun _ => 0)))]) rfl ?_
  refine wc_putF (i := 0) (tl' := [(h0, .inr (3, [.int 0, .int 0, .int 0, .ref q1, .null])), (q1, .inl (kf_aC G 0, 2440, .inl (fun _ => 0)))]) fl_X3_11 fpf_3_3 hname rfl rfl rfl (Nat.le_of_ble_eq_true rfl) rfl E d_X3_init_10 ?_
  refine wc_aload_n 0 rfl E d_X3_init_13 ?_
  refine wc_sipush 183 sp_183 E d_X3_init_14 ?_
  refine wc_newa0 (N := 183) ac_int (by decide) (by decide) (by decide) (Nat.le_of_ble_eq_true rfl) (Nat.le_of_ble_eq_true rfl) E d_X3_init_17 (fun q2 => ?_)
  refine kc_tl (tl' := [(h0, .inr (3, [.int 0, .int 0, .int 0, .ref q1, .null])), (q1, .inl (kf_aC G 0, 2440, .inl (fun _ => 0))), (q2, .inl (kf_aC G 0, 183, .inl (fun _ => 0)))]) rfl ?_
  refine wc_putF (i := 0) (tl' := [(h0, .inr (3, [.int 0, .int 0, .int 0, .ref q1, .ref q2])), (q1, .inl (kf_aC G 0, 2440, .inl (fun _ => 0))), (q2, .inl (kf_aC G 0, 183, .inl (fun _ => 0)))]) fl_X3_15 fpf_3_4 hname rfl rfl rfl (Nat.le_of_ble_eq_true rfl) rfl E d_X3_init_19 ?_
  exact kc_vret (fun i => [q1, q2].getD i 0) rfl rfl E d_X3_init_22
theorem d_X4_init_0 : kf_dq cX4_init 0 1 1 (.aload_n 0) := ⟨by decide +kernel, rfl⟩
theorem d_X4_init_1 : kf_dq cX4_init 1 4 3 (.invokespecial 3) := ⟨by decide +kernel, rfl⟩
theorem d_X4_init_4 : kf_dq cX4_init 4 5 1 (.aload_n 0) := ⟨by decide +kernel, rfl⟩
theorem d_X4_init_5 : kf_dq cX4_init 5 6 1 (.aload_n 1) := ⟨by decide +kernel, rfl⟩
theorem d_X4_init_6 : kf_dq cX4_init 6 9 3 (.putfield 9) := ⟨by decide +kernel, rfl⟩
theorem d_X4_init_9 : kf_dq cX4_init 9 10 1 (.aload_n 0) := ⟨by decide +kernel, rfl⟩
theorem d_X4_init_10 : kf_dq cX4_init 10 12 2 (.bipush 9) := ⟨by decide +kernel, rfl⟩
theorem d_X4_init_12 : kf_dq cX4_init 12 14 2 (.newarray .int) := ⟨by decide +kernel, rfl⟩
theorem d_X4_init_14 : kf_dq cX4_init 14 17 3 (.putfield 17) := ⟨by decide +kernel, rfl⟩
theorem d_X4_init_17 : kf_dq cX4_init 17 18 1 (.aload_n 0) := ⟨by decide +kernel, rfl⟩
theorem d_X4_init_18 : kf_dq cX4_init 18 19 1 (.iconst 4) := ⟨by decide +kernel, rfl⟩
theorem d_X4_init_19 : kf_dq cX4_init 19 21 2 (.newarray .int) := ⟨by decide +kernel, rfl⟩
theorem d_X4_init_21 : kf_dq cX4_init 21 24 3 (.putfield 21) := ⟨by decide +kernel, rfl⟩
theorem d_X4_init_24 : kf_dq cX4_init 24 25 1 (.return_) := ⟨by decide +kernel, rfl⟩
set_option maxRecDepth 100000 in
set_option maxHeartbeats 8000000 in
theorem k_X4_init {G : kf_G} {B : Nat} (h0 a1 : Nat) : kc_Ct 1 2 13 yX4_init cX4_init 2 none G B [.ref h0, .ref a1] [(h0, .inr (4, [.null, .null, .null]))] (fun _ => none) (fun u => [(h0, .inr (4, [.ref a1, .ref (u 0), .ref (u 1)])), ((u 0), .inl (kf_aC G 0, 9, .inl (fun _ => 0))), ((u 1), .inl (kf_aC G 0, 4, .inl (fun _ => 0)))]) := by
  refine kc_Ct.of (lv := [(0, .ref h0), (1, .ref a1)]) (by decide +kernel) rfl (Nat.le_of_ble_eq_true rfl) (fun X wr E hname => ?_)
  refine wc_aload_n 0 rfl E d_X4_init_0 ?_
  refine wc_objInit oml_X4_3 oi_i oi_c (Nat.le_of_ble_eq_true rfl) (Nat.le_of_ble_eq_true rfl) E d_X4_init_1 ?_
  refine wc_aload_n 0 rfl E d_X4_init_4 ?_
  refine wc_aload_n 1 rfl E d_X4_init_5 ?_
  refine wc_putF (i := 0) (tl' := [(h0, .inr (4, [.ref a1, .null, .null]))]) fl_X4_9 fpf_4_0 hname rfl rfl rfl (Nat.le_of_ble_eq_true rfl) rfl E d_X4_init_6 ?_
  refine wc_aload_n 0 rfl E d_X4_init_9 ?_
  refine wc_bipush 9 bp_9 E d_X4_init_10 ?_
  refine wc_newa0 (N := 9) ac_int (by decide) (by decide) (by decide) (Nat.le_of_ble_eq_true rfl) (Nat.le_of_ble_eq_true rfl) E d_X4_init_12 (fun q1 => ?_)
  refine kc_tl (tl' := [(h0, .inr (4, [.ref a1, .null, .null])), (q1, .inl (kf_aC G 0, 9, .inl (fun _ => 0)))]) rfl ?_
  refine wc_putF (i := 0) (tl' := [(h0, .inr (4, [.ref a1, .ref q1, .null])), (q1, .inl (kf_aC G 0, 9, .inl (fun _ => 0)))]) fl_X4_17 fpf_4_1 hname rfl rfl rfl (Nat.le_of_ble_eq_true rfl) rfl E d_X4_init_14 ?_
  refine wc_aload_n 0 rfl E d_X4_init_17 ?_
  refine wc_iconst 4 ic_4 E d_X4_init_18 ?_
  refine wc_newa0 (N := 4) ac_int (by decide) (by decide) (by decide) (Nat.le_of_ble_eq_true rfl) (Nat.le_of_ble_eq_true rfl) E d_X4_init_19 (fun q2 => ?_)
  refine kc_tl (tl' := [(h0, .inr (4, [.ref a1, .ref q1, .null])), (q1, .inl (kf_aC G 0, 9, .inl (fun _ => 0))), (q2, .inl (kf_aC G 0, 4, .inl (fun _ => 0)))]) rfl ?_
  refine wc_putF (i := 0) (tl' := [(h0, .inr (4, [.ref a1, .ref q1, .ref q2])), (q1, .inl (kf_aC G 0, 9, .inl (fun _ => 0))), (q2, .inl (kf_aC G 0, 4, .inl (fun _ => 0)))]) fl_X4_21 fpf_4_2 hname rfl rfl rfl (Nat.le_of_ble_eq_true rfl) rfl E d_X4_init_21 ?_
  exact kc_vret (fun i => [q1, q2].getD i 0) rfl rfl E d_X4_init_24
theorem d_X5_init_0 : kf_dq cX5_init 0 1 1 (.aload_n 0) := ⟨by decide +kernel, rfl⟩
theorem d_X5_init_1 : kf_dq cX5_init 1 4 3 (.invokespecial 3) := ⟨by decide +kernel, rfl⟩
theorem d_X5_init_4 : kf_dq cX5_init 4 5 1 (.aload_n 0) := ⟨by decide +kernel, rfl⟩
theorem d_X5_init_5 : kf_dq cX5_init 5 6 1 (.aload_n 1) := ⟨by decide +kernel, rfl⟩
theorem d_X5_init_6 : kf_dq cX5_init 6 9 3 (.putfield 9) := ⟨by decide +kernel, rfl⟩
theorem d_X5_init_9 : kf_dq cX5_init 9 10 1 (.aload_n 0) := ⟨by decide +kernel, rfl⟩
theorem d_X5_init_10 : kf_dq cX5_init 10 11 1 (.aload_n 2) := ⟨by decide +kernel, rfl⟩
theorem d_X5_init_11 : kf_dq cX5_init 11 14 3 (.putfield 15) := ⟨by decide +kernel, rfl⟩
theorem d_X5_init_14 : kf_dq cX5_init 14 15 1 (.aload_n 0) := ⟨by decide +kernel, rfl⟩
theorem d_X5_init_15 : kf_dq cX5_init 15 18 3 (.sipush 224) := ⟨by decide +kernel, rfl⟩
theorem d_X5_init_18 : kf_dq cX5_init 18 20 2 (.newarray .int) := ⟨by decide +kernel, rfl⟩
theorem d_X5_init_20 : kf_dq cX5_init 20 23 3 (.putfield 19) := ⟨by decide +kernel, rfl⟩
theorem d_X5_init_23 : kf_dq cX5_init 23 24 1 (.return_) := ⟨by decide +kernel, rfl⟩
set_option maxRecDepth 100000 in
set_option maxHeartbeats 8000000 in
theorem k_X5_init {G : kf_G} {B : Nat} (h0 a1 a2 : Nat) : kc_Ct 1 1 224 yX5_init cX5_init 3 none G B [.ref h0, .ref a1, .ref a2] [(h0, .inr (5, [.null, .null, .null]))] (fun _ => none) (fun u => [(h0, .inr (5, [.ref a1, .ref a2, .ref (u 0)])), ((u 0), .inl (kf_aC G 0, 224, .inl (fun _ => 0)))]) := by
  refine kc_Ct.of (lv := [(0, .ref h0), (1, .ref a1), (2, .ref a2)]) (by decide +kernel) rfl (Nat.le_of_ble_eq_true rfl) (fun X wr E hname => ?_)
  refine wc_aload_n 0 rfl E d_X5_init_0 ?_
  refine wc_objInit oml_X5_3 oi_i oi_c (Nat.le_of_ble_eq_true rfl) (Nat.le_of_ble_eq_true rfl) E d_X5_init_1 ?_
  refine wc_aload_n 0 rfl E d_X5_init_4 ?_
  refine wc_aload_n 1 rfl E d_X5_init_5 ?_
  refine wc_putF (i := 0) (tl' := [(h0, .inr (5, [.ref a1, .null, .null]))]) fl_X5_9 fpf_5_0 hname rfl rfl rfl (Nat.le_of_ble_eq_true rfl) rfl E d_X5_init_6 ?_
  refine wc_aload_n 0 rfl E d_X5_init_9 ?_
  refine wc_aload_n 2 rfl E d_X5_init_10 ?_
  refine wc_putF (i := 0) (tl' := [(h0, .inr (5, [.ref a1, .ref a2, .null]))]) fl_X5_15 fpf_5_1 hname rfl rfl rfl (Nat.le_of_ble_eq_true rfl) rfl E d_X5_init_11 ?_
  refine wc_aload_n 0 rfl E d_X5_init_14 ?_
  refine wc_sipush 224 sp_224 E d_X5_init_15 ?_
  refine wc_newa0 (N := 224) ac_int (by decide) (by decide) (by decide) (Nat.le_of_ble_eq_true rfl) (Nat.le_of_ble_eq_true rfl) E d_X5_init_18 (fun q1 => ?_)
  refine kc_tl (tl' := [(h0, .inr (5, [.ref a1, .ref a2, .null])), (q1, .inl (kf_aC G 0, 224, .inl (fun _ => 0)))]) rfl ?_
  refine wc_putF (i := 0) (tl' := [(h0, .inr (5, [.ref a1, .ref a2, .ref q1])), (q1, .inl (kf_aC G 0, 224, .inl (fun _ => 0)))]) fl_X5_19 fpf_5_2 hname rfl rfl rfl (Nat.le_of_ble_eq_true rfl) rfl E d_X5_init_20 ?_
  exact kc_vret (fun i => [q1].getD i 0) rfl rfl E d_X5_init_23
theorem d_X6_init_0 : kf_dq cX6_init 0 1 1 (.aload_n 0) := ⟨by decide +kernel, rfl⟩
theorem d_X6_init_1 : kf_dq cX6_init 1 4 3 (.invokespecial 3) := ⟨by decide +kernel, rfl⟩
theorem d_X6_init_4 : kf_dq cX6_init 4 5 1 (.aload_n 0) := ⟨by decide +kernel, rfl⟩
theorem d_X6_init_5 : kf_dq cX6_init 5 6 1 (.aload_n 1) := ⟨by decide +kernel, rfl⟩
theorem d_X6_init_6 : kf_dq cX6_init 6 9 3 (.putfield 9) := ⟨by decide +kernel, rfl⟩
theorem d_X6_init_9 : kf_dq cX6_init 9 10 1 (.aload_n 0) := ⟨by decide +kernel, rfl⟩
theorem d_X6_init_10 : kf_dq cX6_init 10 11 1 (.aload_n 2) := ⟨by decide +kernel, rfl⟩
theorem d_X6_init_11 : kf_dq cX6_init 11 14 3 (.putfield 15) := ⟨by decide +kernel, rfl⟩
theorem d_X6_init_14 : kf_dq cX6_init 14 15 1 (.aload_n 0) := ⟨by decide +kernel, rfl⟩
theorem d_X6_init_15 : kf_dq cX6_init 15 16 1 (.iconst (-1)) := ⟨by decide +kernel, rfl⟩
theorem d_X6_init_16 : kf_dq cX6_init 16 19 3 (.putfield 19) := ⟨by decide +kernel, rfl⟩
theorem d_X6_init_19 : kf_dq cX6_init 19 20 1 (.return_) := ⟨by decide +kernel, rfl⟩
set_option maxRecDepth 100000 in
set_option maxHeartbeats 8000000 in
theorem k_X6_init {G : kf_G} {B : Nat} (h0 a1 a2 : Nat) : kc_Ct 1 0 0 yX6_init cX6_init 3 none G B [.ref h0, .ref a1, .ref a2] [(h0, .inr (6, [.int 0, .int 0, .null, .null, .int 0, .int 0, .int 0, .int 0]))] (fun _ => none) (fun u => [(h0, .inr (6, [.int 0, .int (-1), .ref a1, .ref a2, .int 0, .int 0, .int 0, .int 0]))]) := by
  refine kc_Ct.of (lv := [(0, .ref h0), (1, .ref a1), (2, .ref a2)]) (by decide +kernel) rfl (Nat.le_of_ble_eq_true rfl) (fun X wr E hname => ?_)
  refine wc_aload_n 0 rfl E d_X6_init_0 ?_
  refine wc_objInit oml_X6_3 oi_i oi_c (Nat.le_of_ble_eq_true rfl) (Nat.le_of_ble_eq_true rfl) E d_X6_init_1 ?_
  refine wc_aload_n 0 rfl E d_X6_init_4 ?_
  refine wc_aload_n 1 rfl E d_X6_init_5 ?_
  refine wc_putF (i := 0) (tl' := [(h0, .inr (6, [.int 0, .int 0, .ref a1, .null, .int 0, .int 0, .int 0, .int 0]))]) fl_X6_9 fpf_6_2 hname rfl rfl rfl (Nat.le_of_ble_eq_true rfl) rfl E d_X6_init_6 ?_
  refine wc_aload_n 0 rfl E d_X6_init_9 ?_
  refine wc_aload_n 2 rfl E d_X6_init_10 ?_
  refine wc_putF (i := 0) (tl' := [(h0, .inr (6, [.int 0, .int 0, .ref a1, .ref a2, .int 0, .int 0, .int 0, .int 0]))]) fl_X6_15 fpf_6_3 hname rfl rfl rfl (Nat.le_of_ble_eq_true rfl) rfl E d_X6_init_11 ?_
  refine wc_aload_n 0 rfl E d_X6_init_14 ?_
  refine wc_iconst (-1) ic_m1 E d_X6_init_15 ?_
  refine wc_put (i := 0) (tl' := [(h0, .inr (6, [.int 0, .int (-1), .ref a1, .ref a2, .int 0, .int 0, .int 0, .int 0]))]) fl_X6_19 fp_6_1 rfl rfl rfl (Nat.le_of_ble_eq_true rfl) rfl E d_X6_init_16 ?_
  exact kc_vret (fun i => [].getD i 0) rfl rfl E d_X6_init_19
theorem d_X9_init_0 : kf_dq cX9_init 0 1 1 (.aload_n 0) := ⟨by decide +kernel, rfl⟩
theorem d_X9_init_1 : kf_dq cX9_init 1 4 3 (.invokespecial 3) := ⟨by decide +kernel, rfl⟩
theorem d_X9_init_4 : kf_dq cX9_init 4 5 1 (.aload_n 0) := ⟨by decide +kernel, rfl⟩
theorem d_X9_init_5 : kf_dq cX9_init 5 6 1 (.aload_n 1) := ⟨by decide +kernel, rfl⟩
theorem d_X9_init_6 : kf_dq cX9_init 6 9 3 (.putfield 9) := ⟨by decide +kernel, rfl⟩
theorem d_X9_init_9 : kf_dq cX9_init 9 10 1 (.aload_n 0) := ⟨by decide +kernel, rfl⟩
theorem d_X9_init_10 : kf_dq cX9_init 10 11 1 (.aload_n 2) := ⟨by decide +kernel, rfl⟩
theorem d_X9_init_11 : kf_dq cX9_init 11 14 3 (.putfield 15) := ⟨by decide +kernel, rfl⟩
theorem d_X9_init_14 : kf_dq cX9_init 14 15 1 (.aload_n 0) := ⟨by decide +kernel, rfl⟩
theorem d_X9_init_15 : kf_dq cX9_init 15 16 1 (.aload_n 3) := ⟨by decide +kernel, rfl⟩
theorem d_X9_init_16 : kf_dq cX9_init 16 19 3 (.putfield 19) := ⟨by decide +kernel, rfl⟩
theorem d_X9_init_19 : kf_dq cX9_init 19 20 1 (.aload_n 0) := ⟨by decide +kernel, rfl⟩
theorem d_X9_init_20 : kf_dq cX9_init 20 22 2 (.bipush 20) := ⟨by decide +kernel, rfl⟩
theorem d_X9_init_22 : kf_dq cX9_init 22 24 2 (.newarray .int) := ⟨by decide +kernel, rfl⟩
theorem d_X9_init_24 : kf_dq cX9_init 24 27 3 (.putfield 23) := ⟨by decide +kernel, rfl⟩
theorem d_X9_init_27 : kf_dq cX9_init 27 28 1 (.aload_n 0) := ⟨by decide +kernel, rfl⟩
theorem d_X9_init_28 : kf_dq cX9_init 28 30 2 (.bipush 20) := ⟨by decide +kernel, rfl⟩
theorem d_X9_init_30 : kf_dq cX9_init 30 32 2 (.newarray .int) := ⟨by decide +kernel, rfl⟩
theorem d_X9_init_32 : kf_dq cX9_init 32 35 3 (.putfield 27) := ⟨by decide +kernel, rfl⟩
theorem d_X9_init_35 : kf_dq cX9_init 35 36 1 (.aload_n 0) := ⟨by decide +kernel, rfl⟩
theorem d_X9_init_36 : kf_dq cX9_init 36 38 2 (.bipush 20) := ⟨by decide +kernel, rfl⟩
theorem d_X9_init_38 : kf_dq cX9_init 38 40 2 (.newarray .int) := ⟨by decide +kernel, rfl⟩
theorem d_X9_init_40 : kf_dq cX9_init 40 43 3 (.putfield 30) := ⟨by decide +kernel, rfl⟩
theorem d_X9_init_43 : kf_dq cX9_init 43 44 1 (.aload_n 0) := ⟨by decide +kernel, rfl⟩
theorem d_X9_init_44 : kf_dq cX9_init 44 45 1 (.iconst 3) := ⟨by decide +kernel, rfl⟩
theorem d_X9_init_45 : kf_dq cX9_init 45 47 2 (.newarray .int) := ⟨by decide +kernel, rfl⟩
theorem d_X9_init_47 : kf_dq cX9_init 47 50 3 (.putfield 33) := ⟨by decide +kernel, rfl⟩
theorem d_X9_init_50 : kf_dq cX9_init 50 51 1 (.return_) := ⟨by decide +kernel, rfl⟩
set_option maxRecDepth 100000 in
set_option maxHeartbeats 8000000 in
theorem k_X9_init {G : kf_G} {B : Nat} (h0 a1 a2 a3 : Nat) : kc_Ct 1 4 63 yX9_init cX9_init 4 none G B [.ref h0, .ref a1, .ref a2, .ref a3] [(h0, .inr (9, [.int 0, .null, .null, .null, .null, .null, .null, .null]))] (fun _ => none) (fun u => [(h0, .inr (9, [.int 0, .ref a1, .ref a2, .ref a3, .ref (u 0), .ref (u 1), .ref (u 2), .ref (u 3)])), ((u 0), .inl (kf_aC G 0, 20, .inl (fun _ => 0))), ((u 1), .inl (kf_aC G 0, 20, .inl (fun _ => 0))), ((u 2), .inl (kf_aC G 0, 20, .inl (fun _ => 0))), ((u 3), .inl (kf_aC G 0, 3, .inl (fun _ => 0)))]) := by
  refine kc_Ct.of (lv := [(0, .ref h0), (1, .ref a1), (2, .ref a2), (3, .ref a3)]) (by decide +kernel) rfl (Nat.le_of_ble_eq_true rfl) (fun X wr E hname => ?_)
  refine wc_aload_n 0 rfl E d_X9_init_0 ?_
  refine wc_objInit oml_X9_3 oi_i oi_c (Nat.le_of_ble_eq_true rfl) (Nat.le_of_ble_eq_true rfl) E d_X9_init_1 ?_
  refine wc_aload_n 0 rfl E d_X9_init_4 ?_
  refine wc_aload_n 1 rfl E d_X9_init_5 ?_
  refine wc_putF (i := 0) (tl' := [(h0, .inr (9, [.int 0, .ref a1, .null, .null, .null, .null, .null, .null]))]) fl_X9_9 fpf_9_1 hname rfl rfl rfl (Nat.le_of_ble_eq_true rfl) rfl E d_X9_init_6 ?_
  refine wc_aload_n 0 rfl E d_X9_init_9 ?_
  refine wc_aload_n 2 rfl E d_X9_init_10 ?_
  refine wc_putF (i := 0) (tl' := [(h0, .inr (9, [.int 0, .ref a1, .ref a2, .null, .null, .null, .null, .null]))]) fl_X9_15 fpf_9_2 hname rfl rfl rfl (Nat.le_of_ble_eq_true rfl) rfl E d_X9_init_11 ?_
  refine wc_aload_n 0 rfl E d_X9_init_14 ?_
  refine wc_aload_n 3 rfl E d_X9_init_15 ?_
  refine wc_putF (i := 0) (tl' := [(h0, .inr (9, [.int 0, .ref a1, .ref a2, .ref a3, .null, .null, .null, .null]))]) fl_X9_19 fpf_9_3 hname rfl rfl rfl (Nat.le_of_ble_eq_true rfl) rfl E d_X9_init_16 ?_
  refine wc_aload_n 0 rfl E d_X9_init_19 ?_
  refine wc_bipush 20 bp_20 E d_X9_init_20 ?_
  refine wc_newa0 (N := 20) ac_int (by decide) (by decide) (by decide) (Nat.le_of_ble_eq_true rfl) (Nat.le_of_ble_eq_true rfl) E d_X9_init_22 (fun q1 => ?_)
  refine kc_tl (tl' := [(h0, .inr (9, [.int 0, .ref a1, .ref a2, .ref a3, .null, .null, .null, .null])), (q1, .inl (kf_aC G 0, 20, .inl (fun _ => 0)))]) rfl ?_
  refine wc_putF (i := 0) (tl' := [(h0, .inr (9, [.int 0, .ref a1, .ref a2, .ref a3, .ref q1, .null, .null, .null])), (q1, .inl (kf_aC G 0, 20, .inl (fun _ => 0)))]) fl_X9_23 fpf_9_4 hname rfl rfl rfl (Nat.le_of_ble_eq_true rfl) rfl E d_X9_init_24 ?_
  refine wc_aload_n 0 rfl E d_X9_init_27 ?_
  refine wc_bipush 20 bp_20 E d_X9_init_28 ?_
  refine wc_newa0 (N := 20) ac_int (by decide) (by decide) (by decide) (Nat.le_of_ble_eq_true rfl) (Nat.le_of_ble_eq_true rfl) E d_X9_init_30 (fun q2 => ?_)
  refine kc_tl (tl' := [(h0, .inr (9, [.int 0, .ref a1, .ref a2, .ref a3, .ref q1, .null, .null, .null])), (q1, .inl (kf_aC G 0, 20, .inl (fun _ => 0))), (q2, .inl (kf_aC G 0, 20, .inl (fun _ => 0)))]) rfl ?_
  refine wc_putF (i := 0) (tl' := [(h0, .inr (9, [.int 0, .ref a1, .ref a2, .ref a3, .ref q1, .ref q2, .null, .null])), (q1, .inl (kf_aC G 0, 20, .inl (fun _ => 0))), (q2, .inl (kf_aC G 0, 20, .inl (fun _ => 0)))]) fl_X9_27 fpf_9_5 hname rfl rfl rfl (Nat.le_of_ble_eq_true rfl) rfl E d_X9_init_32 ?_
  refine wc_aload_n 0 rfl E d_X9_init_35 ?_
  refine wc_bipush 20 bp_20 E d_X9_init_36 ?_
  refine wc_newa0 (N := 20) ac_int (by decide) (by decide) (by decide) (Nat.le_of_ble_eq_true rfl) (Nat.le_of_ble_eq_true rfl) E d_X9_init_38 (fun q3 => ?_)
  refine kc_tl (tl' := [(h0, .inr (9, [.int 0, .ref a1, .ref a2, .ref a3, .ref q1, .ref q2, .null, .null])), (q1, .inl (kf_aC G 0, 20, .inl (fun _ => 0))), (q2, .inl (kf_aC G 0, 20, .inl (fun _ => 0))), (q3, .inl (kf_aC G 0, 20, .inl (fun _ => 0)))]) rfl ?_
  refine wc_putF (i := 0) (tl' := [(h0, .inr (9, [.int 0, .ref a1, .ref a2, .ref a3, .ref q1, .ref q2, .ref q3, .null])), (q1, .inl (kf_aC G 0, 20, .inl (fun _ => 0))), (q2, .inl (kf_aC G 0, 20, .inl (fun _ => 0))), (q3, .inl (kf_aC G 0, 20, .inl (fun _ => 0)))]) fl_X9_30 fpf_9_6 hname rfl rfl rfl (Nat.le_of_ble_eq_true rfl) rfl E d_X9_init_40 ?_
  refine wc_aload_n 0 rfl E d_X9_init_43 ?_
  refine wc_iconst 3 ic_3 E d_X9_init_44 ?_
  refine wc_newa0 (N := 3) ac_int (by decide) (by decide) (by decide) (Nat.le_of_ble_eq_true rfl) (Nat.le_of_ble_eq_true rfl) E d_X9_init_45 (fun q4 => ?_)
  refine kc_tl (tl' := [(h0, .inr (9, [.int 0, .ref a1, .ref a2, .ref a3, .ref q1, .ref q2, .ref q3, .null])), (q1, .inl (kf_aC G 0, 20, .inl (fun _ => 0))), (q2, .inl (kf_aC G 0, 20, .inl (fun _ => 0))), (q3, .inl (kf_aC G 0, 20, .inl (fun _ => 0))), (q4, .inl (kf_aC G 0, 3, .inl (fun _ => 0)))]) rfl ?_
  refine wc_putF (i := 0) (tl' := [(h0, .inr (9, [.int 0, .ref a1, .ref a2, .ref a3, .ref q1, .ref q2, .ref q3, .ref q4])), (q1, .inl (kf_aC G 0, 20, .inl (fun _ => 0))), (q2, .inl (kf_aC G 0, 20, .inl (fun _ => 0))), (q3, .inl (kf_aC G 0, 20, .inl (fun _ => 0))), (q4, .inl (kf_aC G 0, 3, .inl (fun _ => 0)))]) fl_X9_33 fpf_9_7 hname rfl rfl rfl (Nat.le_of_ble_eq_true rfl) rfl E d_X9_init_47 ?_
  exact kc_vret (fun i => [q1, q2, q3, q4].getD i 0) rfl rfl E d_X9_init_50
theorem d_X0_init_0 : kf_dq cX0_init 0 1 1 (.aload_n 0) := ⟨by decide +kernel, rfl⟩
theorem d_X0_init_1 : kf_dq cX0_init 1 4 3 (.invokespecial 3) := ⟨by decide +kernel, rfl⟩
theorem d_X0_init_4 : kf_dq cX0_init 4 5 1 (.aload_n 0) := ⟨by decide +kernel, rfl⟩
theorem d_X0_init_5 : kf_dq cX0_init 5 6 1 (.aload_n 1) := ⟨by decide +kernel, rfl⟩
theorem d_X0_init_6 : kf_dq cX0_init 6 9 3 (.putfield 9) := ⟨by decide +kernel, rfl⟩
theorem d_X0_init_9 : kf_dq cX0_init 9 10 1 (.aload_n 0) := ⟨by decide +kernel, rfl⟩
theorem d_X0_init_10 : kf_dq cX0_init 10 11 1 (.aload_n 2) := ⟨by decide +kernel, rfl⟩
theorem d_X0_init_11 : kf_dq cX0_init 11 14 3 (.putfield 15) := ⟨by decide +kernel, rfl⟩
theorem d_X0_init_14 : kf_dq cX0_init 14 15 1 (.aload_n 0) := ⟨by decide +kernel, rfl⟩
theorem d_X0_init_15 : kf_dq cX0_init 15 16 1 (.aload_n 3) := ⟨by decide +kernel, rfl⟩
theorem d_X0_init_16 : kf_dq cX0_init 16 19 3 (.putfield 19) := ⟨by decide +kernel, rfl⟩
theorem d_X0_init_19 : kf_dq cX0_init 19 20 1 (.aload_n 0) := ⟨by decide +kernel, rfl⟩
theorem d_X0_init_20 : kf_dq cX0_init 20 23 3 (.new 23) := ⟨by decide +kernel, rfl⟩
theorem d_X0_init_23 : kf_dq cX0_init 23 24 1 (.dup) := ⟨by decide +kernel, rfl⟩
theorem d_X0_init_24 : kf_dq cX0_init 24 27 3 (.invokespecial 25) := ⟨by decide +kernel, rfl⟩
theorem d_X0_init_27 : kf_dq cX0_init 27 30 3 (.putfield 26) := ⟨by decide +kernel, rfl⟩
theorem d_X0_init_30 : kf_dq cX0_init 30 31 1 (.aload_n 0) := ⟨by decide +kernel, rfl⟩
theorem d_X0_init_31 : kf_dq cX0_init 31 34 3 (.sipush 624) := ⟨by decide +kernel, rfl⟩
theorem d_X0_init_34 : kf_dq cX0_init 34 36 2 (.newarray .int) := ⟨by decide +kernel, rfl⟩
theorem d_X0_init_36 : kf_dq cX0_init 36 39 3 (.putfield 30) := ⟨by decide +kernel, rfl⟩
theorem d_X0_init_39 : kf_dq cX0_init 39 40 1 (.return_) := ⟨by decide +kernel, rfl⟩
set_option maxRecDepth 100000 in
set_option maxHeartbeats 8000000 in
theorem k_X0_init {G : kf_G} {B : Nat} (h0 a1 a2 a3 : Nat) : kc_Ct 2 3 634 yX0_init cX0_init 4 none G B [.ref h0, .ref a1, .ref a2, .ref a3] [(h0, .inr (0, [.null, .null, .null, .null, .null]))] (fun _ => none) (fun u => [(h0, .inr (0, [.ref a1, .ref a2, .ref a3, .ref (u 0), .ref (u 2)]))] ++ [((u 0), .inr (1, [.ref (u 1), .int 0, .int 0, .int 0, .int 0, .int 0])), ((u 1), .inl (kf_aC G 0, 4, .inl (fun _ => 0))), ((u 2), .inl (kf_aC G 0, 624, .inl (fun _ => 0)))]) := by
  refine kc_Ct.of (lv := [(0, .ref h0), (1, .ref a1), (2, .ref a2), (3, .ref a3)]) (by decide +kernel) rfl (Nat.le_of_ble_eq_true rfl) (fun X wr E hname => ?_)
  refine wc_aload_n 0 rfl E d_X0_init_0 ?_
  refine wc_objInit oml_X0_3 oi_i oi_c (Nat.le_of_ble_eq_true rfl) (Nat.le_of_ble_eq_true rfl) E d_X0_init_1 ?_
  refine wc_aload_n 0 rfl E d_X0_init_4 ?_
  refine wc_aload_n 1 rfl E d_X0_init_5 ?_
  refine wc_putF (i := 0) (tl' := [(h0, .inr (0, [.ref a1, .null, .null, .null, .null]))]) fl_X0_9 fpf_0_0 hname rfl rfl rfl (Nat.le_of_ble_eq_true rfl) rfl E d_X0_init_6 ?_
  refine wc_aload_n 0 rfl E d_X0_init_9 ?_
  refine wc_aload_n 2 rfl E d_X0_init_10 ?_
  refine wc_putF (i := 0) (tl' := [(h0, .inr (0, [.ref a1, .ref a2, .null, .null, .null]))]) fl_X0_15 fpf_0_1 hname rfl rfl rfl (Nat.le_of_ble_eq_true rfl) rfl E d_X0_init_11 ?_
  refine wc_aload_n 0 rfl E d_X0_init_14 ?_
  refine wc_aload_n 3 rfl E d_X0_init_15 ?_
  refine wc_putF (i := 0) (tl' := [(h0, .inr (0, [.ref a1, .ref a2, .ref a3, .null, .null]))]) fl_X0_19 fpf_0_2 hname rfl rfl rfl (Nat.le_of_ble_eq_true rfl) rfl E d_X0_init_16 ?_
  refine wc_aload_n 0 rfl E d_X0_init_19 ?_
  refine wc_new (fs := [.null, .int 0, .int 0, .int 0, .int 0, .int 0]) nw_X0_23 (Nat.le_of_ble_eq_true rfl) (Nat.le_of_ble_eq_true rfl) E d_X0_init_20 (fun q1 => ?_)
  refine wc_dup rfl E d_X0_init_23 ?_
  refine wc_callI (t0 := [(h0, .inr (0, [.ref a1, .ref a2, .ref a3, .null, .null]))]) (rest := [.ref q1, .ref h0]) (k_X1_init q1) mn_X1_init ml_X0_25 rfl rfl (Nat.le_of_ble_eq_true rfl) (Nat.le_of_ble_eq_true rfl) (Nat.le_of_ble_eq_true rfl) rfl (Nat.le_of_ble_eq_true rfl) E d_X0_init_24 (fun u2 => ?_)
  refine kc_tl (tl' := [(h0, .inr (0, [.ref a1, .ref a2, .ref a3, .null, .null]))] ++ [(q1, .inr (1, [.ref (u2 0), .int 0, .int 0, .int 0, .int 0, .int 0])), ((u2 0), .inl (kf_aC G 0, 4, .inl (fun _ => 0)))]) rfl ?_
  refine wc_putF (i := 0) (tl' := [(h0, .inr (0, [.ref a1, .ref a2, .ref a3, .ref q1, .null]))] ++ [(q1, .inr (1, [.ref (u2 0), .int 0, .int 0, .int 0, .int 0, .int 0])), ((u2 0), .inl (kf_aC G 0, 4, .inl (fun _ => 0)))]) fl_X0_26 fpf_0_3 hname rfl rfl rfl (Nat.le_of_ble_eq_true rfl) rfl E d_X0_init_27 ?_
  refine wc_aload_n 0 rfl E d_X0_init_30 ?_
  refine wc_sipush 624 sp_624 E d_X0_init_31 ?_
  refine wc_newa0 (N := 624) ac_int (by decide) (by decide) (by decide) (Nat.le_of_ble_eq_true rfl) (Nat.le_of_ble_eq_true rfl) E d_X0_init_34 (fun q3 => ?_)
  refine kc_tl (tl' := [(h0, .inr (0, [.ref a1, .ref a2, .ref a3, .ref q1, .null]))] ++ [(q1, .inr (1, [.ref (u2 0), .int 0, .int 0, .int 0, .int 0, .int 0])), ((u2 0), .inl (kf_aC G 0, 4, .inl (fun _ => 0))), (q3, .inl (kf_aC G 0, 624, .inl (fun _ => 0)))]) rfl ?_
  refine wc_putF (i := 0) (tl' := [(h0, .inr (0, [.ref a1, .ref a2, .ref a3, .ref q1, .ref q3]))] ++ [(q1, .inr (1, [.ref (u2 0), .int 0, .int 0, .int 0, .int 0, .int 0])), ((u2 0), .inl (kf_aC G 0, 4, .inl (fun _ => 0))), (q3, .inl (kf_aC G 0, 624, .inl (fun _ => 0)))]) fl_X0_30 fpf_0_4 hname rfl rfl rfl (Nat.le_of_ble_eq_true rfl) rfl E d_X0_init_36 ?_
  exact kc_vret (fun i => [q1, (u2 0), q3].getD i 0) rfl rfl E d_X0_init_39
theorem d_X7_init_0 : kf_dq cX7_init 0 1 1 (.aload_n 0) := ⟨by decide +kernel, rfl⟩
theorem d_X7_init_1 : kf_dq cX7_init 1 4 3 (.invokespecial 5) := ⟨by decide +kernel, rfl⟩
theorem d_X7_init_4 : kf_dq cX7_init 4 5 1 (.aload_n 0) := ⟨by decide +kernel, rfl⟩
theorem d_X7_init_5 : kf_dq cX7_init 5 7 2 (.bipush 6) := ⟨by decide +kernel, rfl⟩
theorem d_X7_init_7 : kf_dq cX7_init 7 10 3 (.anewarray 1) := ⟨by decide +kernel, rfl⟩
theorem d_X7_init_10 : kf_dq cX7_init 10 13 3 (.putfield 11) := ⟨by decide +kernel, rfl⟩
theorem d_X7_init_13 : kf_dq cX7_init 13 14 1 (.iconst 0) := ⟨by decide +kernel, rfl⟩
theorem d_X7_init_14 : kf_dq cX7_init 14 15 1 (.istore_n 1) := ⟨by decide +kernel, rfl⟩
theorem d_X7_init_15 : kf_dq cX7_init 15 16 1 (.iload_n 1) := ⟨by decide +kernel, rfl⟩
theorem d_X7_init_16 : kf_dq cX7_init 16 18 2 (.bipush 6) := ⟨by decide +kernel, rfl⟩
theorem d_X7_init_18 : kf_dj cX7_init 18 21 40 (.if_icmp .ge) := ⟨22, by decide +kernel, rfl, by decide⟩
theorem d_X7_init_21 : kf_dq cX7_init 21 22 1 (.aload_n 0) := ⟨by decide +kernel, rfl⟩
theorem d_X7_init_22 : kf_dq cX7_init 22 25 3 (.getfield 11) := ⟨by decide +kernel, rfl⟩
theorem d_X7_init_25 : kf_dq cX7_init 25 26 1 (.iload_n 1) := ⟨by decide +kernel, rfl⟩
theorem d_X7_init_26 : kf_dq cX7_init 26 29 3 (.new 1) := ⟨by decide +kernel, rfl⟩
theorem d_X7_init_29 : kf_dq cX7_init 29 30 1 (.dup) := ⟨by decide +kernel, rfl⟩
theorem d_X7_init_30 : kf_dq cX7_init 30 33 3 (.invokespecial 17) := ⟨by decide +kernel, rfl⟩
theorem d_X7_init_33 : kf_dq cX7_init 33 34 1 (.aastore) := ⟨by decide +kernel, rfl⟩
theorem d_X7_init_34 : kf_dq cX7_init 34 37 3 (.iinc 1 1) := ⟨by decide +kernel, rfl⟩
theorem d_X7_init_37 : kf_dj cX7_init 37 40 15 .goto := ⟨(-22), by decide +kernel, rfl, by decide⟩
theorem d_X7_init_40 : kf_dq cX7_init 40 41 1 (.aload_n 0) := ⟨by decide +kernel, rfl⟩
theorem d_X7_init_41 : kf_dq cX7_init 41 42 1 (.iconst 5) := ⟨by decide +kernel, rfl⟩
theorem d_X7_init_42 : kf_dq cX7_init 42 44 2 (.newarray .int) := ⟨by decide +kernel, rfl⟩
theorem d_X7_init_44 : kf_dq cX7_init 44 47 3 (.putfield 18) := ⟨by decide +kernel, rfl⟩
theorem d_X7_init_47 : kf_dq cX7_init 47 48 1 (.aload_n 0) := ⟨by decide +kernel, rfl⟩
theorem d_X7_init_48 : kf_dq cX7_init 48 50 2 (.bipush 24) := ⟨by decide +kernel, rfl⟩
theorem d_X7_init_50 : kf_dq cX7_init 50 52 2 (.newarray .int) := ⟨by decide +kernel, rfl⟩
theorem d_X7_init_52 : kf_dq cX7_init 52 55 3 (.putfield 22) := ⟨by decide +kernel, rfl⟩
theorem d_X7_init_55 : kf_dq cX7_init 55 56 1 (.return_) := ⟨by decide +kernel, rfl⟩
set_option maxRecDepth 100000 in
set_option maxHeartbeats 8000000 in
theorem k_X7_init {G : kf_G} {B : Nat} (h0 : Nat) : kc_Ct 2 15 95 yX7_init cX7_init 2 none G B [.ref h0] [(h0, .inr (7, [.null, .null, .int 0, .int 0, .null]))] (fun _ => none) (fun u => [(h0, .inr (7, [.ref (u 0), .ref (u 13), .int 0, .int 0, .ref (u 14)])), ((u 0), .inl (kf_aC G 4, 6, .inr (.inr (.inr (.inr (va_up (va_up (va_up (va_up (va_up (va_up (fun _ => none) (Int32.toNatClampNeg 0) (some (u 1))) (Int32.toNatClampNeg 1) (some (u 3))) (Int32.toNatClampNeg 2) (some (u 5))) (Int32.toNatClampNeg 3) (some (u 7))) (Int32.toNatClampNeg 4) (some (u 9))) (Int32.toNatClampNeg 5) (some (u 11))))))))] ++ [((u 1), .inr (1, [.ref (u 2), .int 0, .int 0, .int 0, .int 0, .int 0])), ((u 2), .inl (kf_aC G 0, 4, .inl (fun _ => 0)))] ++ [((u 3), .inr (1, [.ref (u 4), .int 0, .int 0, .int 0, .int 0, .int 0])), ((u 4), .inl (kf_aC G 0, 4, .inl (fun _ => 0)))] ++ [((u 5), .inr (1, [.ref (u 6), .int 0, .int 0, .int 0, .int 0, .int 0])), ((u 6), .inl (kf_aC G 0, 4, .inl (fun _ => 0)))] ++ [((u 7), .inr (1, [.ref (u 8), .int 0, .int 0, .int 0, .int 0, .int 0])), ((u 8), .inl (kf_aC G 0, 4, .inl (fun _ => 0)))] ++ [((u 9), .inr (1, [.ref (u 10), .int 0, .int 0, .int 0, .int 0, .int 0])), ((u 10), .inl (kf_aC G 0, 4, .inl (fun _ => 0)))] ++ [((u 11), .inr (1, [.ref (u 12), .int 0, .int 0, .int 0, .int 0, .int 0])), ((u 12), .inl (kf_aC G 0, 4, .inl (fun _ => 0))), ((u 13), .inl (kf_aC G 0, 5, .inl (fun _ => 0))), ((u 14), .inl (kf_aC G 0, 24, .inl (fun _ => 0)))]) := by
  refine kc_Ct.of (lv := [(0, .ref h0)]) (by decide +kernel) rfl (Nat.le_of_ble_eq_true rfl) (fun X wr E hname => ?_)
  refine wc_aload_n 0 rfl E d_X7_init_0 ?_
  refine wc_objInit oml_X7_5 oi_i oi_c (Nat.le_of_ble_eq_true rfl) (Nat.le_of_ble_eq_true rfl) E d_X7_init_1 ?_
  refine wc_aload_n 0 rfl E d_X7_init_4 ?_
  refine wc_bipush 6 bp_6 E d_X7_init_5 ?_
  refine wc_newq (N := 6) ckl_X7_1 (by decide) (by decide) (by decide) (Nat.le_of_ble_eq_true rfl) (Nat.le_of_ble_eq_true rfl) E d_X7_init_7 (fun q1 => ?_)
  refine kc_tl (tl' := [(h0, .inr (7, [.null, .null, .int 0, .int 0, .null])), (q1, .inl (kf_aC G 4, 6, .inr (.inr (.inr (.inr (fun _ => none))))))]) rfl ?_
  refine wc_putF (i := 0) (tl' := [(h0, .inr (7, [.ref q1, .null, .int 0, .int 0, .null])), (q1, .inl (kf_aC G 4, 6, .inr (.inr (.inr (.inr (fun _ => none))))))]) fl_X7_11 fpf_7_0 hname rfl rfl rfl (Nat.le_of_ble_eq_true rfl) rfl E d_X7_init_10 ?_
  refine wc_iconst 0 ic_0 E d_X7_init_13 ?_
  refine wc_istore_n (lv' := [(1, .int 0), (0, .ref h0)]) rfl (by decide) rfl E d_X7_init_14 ?_
  refine wc_iload_n 0 rfl E d_X7_init_15 ?_
  refine wc_bipush 6 bp_6 E d_X7_init_16 ?_
  refine wc_icmp_ge E d_X7_init_18 (fun c => absurd c (by decide)) (fun _ => ?_)
  refine wc_aload_n 1 rfl E d_X7_init_21 ?_
  refine wc_getf (i := 0) fl_X7_11 rfl rfl E d_X7_init_22 ?_
  refine wc_iload_n 0 rfl E d_X7_init_25 ?_
  refine wc_new (fs := [.null, .int 0, .int 0, .int 0, .int 0, .int 0]) nw_X7_1 (Nat.le_of_ble_eq_true rfl) (Nat.le_of_ble_eq_true rfl) E d_X7_init_26 (fun q2 => ?_)
  refine wc_dup rfl E d_X7_init_29 ?_
  refine wc_callI (t0 := [(h0, .inr (7, [.ref q1, .null, .int 0, .int 0, .null])), (q1, .inl (kf_aC G 4, 6, .inr (.inr (.inr (.inr (fun _ => none))))))]) (rest := [.ref q2, .int 0, .ref q1]) (k_X1_init q2) mn_X1_init ml_X7_17 rfl rfl (Nat.le_of_ble_eq_true rfl) (Nat.le_of_ble_eq_true rfl) (Nat.le_of_ble_eq_true rfl) rfl (Nat.le_of_ble_eq_true rfl) E d_X7_init_30 (fun u3 => ?_)
  refine kc_tl (tl' := [(h0, .inr (7, [.ref q1, .null, .int 0, .int 0, .null])), (q1, .inl (kf_aC G 4, 6, .inr (.inr (.inr (.inr (fun _ => none))))))] ++ [(q2, .inr (1, [.ref (u3 0), .int 0, .int 0, .int 0, .int 0, .int 0])), ((u3 0), .inl (kf_aC G 0, 4, .inl (fun _ => 0)))]) rfl ?_
  refine wc_astq (i := 1) (i2 := 2) (tl' := [(h0, .inr (7, [.ref q1, .null, .int 0, .int 0, .null])), (q1, .inl (kf_aC G 4, 6, .inr (.inr (.inr (.inr (va_up (fun _ => none) (Int32.toNatClampNeg 0) (some q2)))))))] ++ [(q2, .inr (1, [.ref (u3 0), .int 0, .int 0, .int 0, .int 0, .int 0])), ((u3 0), .inl (kf_aC G 0, 4, .inl (fun _ => 0)))]) rfl rfl (by decide) rfl E d_X7_init_33 ?_
  refine wc_iinc (lv' := [(1, .int 1), (0, .ref h0)]) 1 0 rfl (by decide) (by decide) rfl E d_X7_init_34 ?_
  refine wc_goto E d_X7_init_37 ?_
  refine wc_iload_n 0 rfl E d_X7_init_15 ?_
  refine wc_bipush 6 bp_6 E d_X7_init_16 ?_
  refine wc_icmp_ge E d_X7_init_18 (fun c => absurd c (by decide)) (fun _ => ?_)
  refine wc_aload_n 1 rfl E d_X7_init_21 ?_
  refine wc_getf (i := 0) fl_X7_11 rfl rfl E d_X7_init_22 ?_
  refine wc_iload_n 0 rfl E d_X7_init_25 ?_
  refine wc_new (fs := [.null, .int 0, .int 0, .int 0, .int 0, .int 0]) nw_X7_1 (Nat.le_of_ble_eq_true rfl) (Nat.le_of_ble_eq_true rfl) E d_X7_init_26 (fun q4 => ?_)
  refine wc_dup rfl E d_X7_init_29 ?_
  refine wc_callI (t0 := [(h0, .inr (7, [.ref q1, .null, .int 0, .int 0, .null])), (q1, .inl (kf_aC G 4, 6, .inr (.inr (.inr (.inr (va_up (fun _ => none) (Int32.toNatClampNeg 0) (some q2)))))))] ++ [(q2, .inr (1, [.ref (u3 0), .int 0, .int 0, .int 0, .int 0, .int 0])), ((u3 0), .inl (kf_aC G 0, 4, .inl (fun _ => 0)))]) (rest := [.ref q4, .int 1, .ref q1]) (k_X1_init q4) mn_X1_init ml_X7_17 rfl rfl (Nat.le_of_ble_eq_true rfl) (Nat.le_of_ble_eq_true rfl) (Nat.le_of_ble_eq_true rfl) rfl (Nat.le_of_ble_eq_true rfl) E d_X7_init_30 (fun u5 => ?_)
  refine kc_tl (tl' := [(h0, .inr (7, [.ref q1, .null, .int 0, .int 0, .null])), (q1, .inl (kf_aC G 4, 6, .inr (.inr (.inr (.inr (va_up (fun _ => none) (Int32.toNatClampNeg 0) (some q2)))))))] ++ [(q2, .inr (1, [.ref (u3 0), .int 0, .int 0, .int 0, .int 0, .int 0])), ((u3 0), .inl (kf_aC G 0, 4, .inl (fun _ => 0)))] ++ [(q4, .inr (1, [.ref (u5 0), .int 0, .int 0, .int 0, .int 0, .int 0])), ((u5 0), .inl (kf_aC G 0, 4, .inl (fun _ => 0)))]) rfl ?_
  refine wc_astq (i := 1) (i2 := 4) (tl' := [(h0, .inr (7, [.ref q1, .null, .int 0, .int 0, .null])), (q1, .inl (kf_aC G 4, 6, .inr (.inr (.inr (.inr (va_up (va_up (fun _ => none) (Int32.toNatClampNeg 0) (some q2)) (Int32.toNatClampNeg 1) (some q4)))))))] ++ [(q2, .inr (1, [.ref (u3 0), .int 0, .int 0, .int 0, .int 0, .int 0])), ((u3 0), .inl (kf_aC G 0, 4, .inl (fun _ => 0)))] ++ [(q4, .inr (1, [.ref (u5 0), .int 0, .int 0, .int 0, .int 0, .int 0])), ((u5 0), .inl (kf_aC G 0, 4, .inl (fun _ => 0)))]) rfl rfl (by decide) rfl E d_X7_init_33 ?_
  refine wc_iinc (lv' := [(1, .int 2), (0, .ref h0)]) 2 0 rfl (by decide) (by decide) rfl E d_X7_init_34 ?_
  refine wc_goto E d_X7_init_37 ?_
  refine wc_iload_n 0 rfl E d_X7_init_15 ?_
  refine wc_bipush 6 bp_6 E d_X7_init_16 ?_
  refine wc_icmp_ge E d_X7_init_18 (fun c => absurd c (by decide)) (fun _ => ?_)
  refine wc_aload_n 1 rfl E d_X7_init_21 ?_
  refine wc_getf (i := 0) fl_X7_11 rfl rfl E d_X7_init_22 ?_
  refine wc_iload_n 0 rfl E d_X7_init_25 ?_
  refine wc_new (fs := [.null, .int 0, .int 0, .int 0, .int 0, .int 0]) nw_X7_1 (Nat.le_of_ble_eq_true rfl) (Nat.le_of_ble_eq_true rfl) E d_X7_init_26 (fun q6 => ?_)
  refine wc_dup rfl E d_X7_init_29 ?_
  refine wc_callI (t0 := [(h0, .inr (7, [.ref q1, .null, .int 0, .int 0, .null])), (q1, .inl (kf_aC G 4, 6, .inr (.inr (.inr (.inr (va_up (va_up (fun _ => none) (Int32.toNatClampNeg 0) (some q2)) (Int32.toNatClampNeg 1) (some q4)))))))] ++ [(q2, .inr (1, [.ref (u3 0), .int 0, .int 0, .int 0, .int 0, .int 0])), ((u3 0), .inl (kf_aC G 0, 4, .inl (fun _ => 0)))] ++ [(q4, .inr (1, [.ref (u5 0), .int 0, .int 0, .int 0, .int 0, .int 0])), ((u5 0), .inl (kf_aC G 0, 4, .inl (fun _ => 0)))]) (rest := [.ref q6, .int 2, .ref q1]) (k_X1_init q6) mn_X1_init ml_X7_17 rfl rfl (Nat.le_of_ble_eq_true rfl) (Nat.le_of_ble_eq_true rfl) (Nat.le_of_ble_eq_true rfl) rfl (Nat.le_of_ble_eq_true rfl) E d_X7_init_30 (fun u7 => ?_)
  refine kc_tl (tl' := [(h0, .inr (7, [.ref q1, .null, .int 0, .int 0, .null])), (q1, .inl (kf_aC G 4, 6, .inr (.inr (.inr (.inr (va_up (va_up (fun _ => none) (Int32.toNatClampNeg 0) (some q2)) (Int32.toNatClampNeg 1) (some q4)))))))] ++ [(q2, .inr (1, [.ref (u3 0), .int 0, .int 0, .int 0, .int 0, .int 0])), ((u3 0), .inl (kf_aC G 0, 4, .inl (fun _ => 0)))] ++ [(q4, .inr (1, [.ref (u5 0), .int 0, .int 0, .int 0, .int 0, .int 0])), ((u5 0), .inl (kf_aC G 0, 4, .inl (fun _ => 0)))] ++ [(q6, .inr (1, [.ref (u7 0), .int 0, .int 0, .int 0, .int 0, .int 0])), ((u7 0), .inl (kf_aC G 0, 4, .inl (fun _ => 0)))]) rfl ?_
  refine wc_astq (i := 1) (i2 := 6) (tl' := [(h0, .inr (7, [.ref q1, .null, .int 0, .int 0, .null])), (q1, .inl (kf_aC G 4, 6, .inr (.inr (.inr (.inr (va_up (va_up (va_up (fun _ => none) (Int32.toNatClampNeg 0) (some q2)) (Int32.toNatClampNeg 1) (some q4)) (Int32.toNatClampNeg 2) (some q6)))))))] ++ [(q2, .inr (1, [.ref (u3 0), .int 0, .int 0, .int 0, .int 0, .int 0])), ((u3 0), .inl (kf_aC G 0, 4, .inl (fun _ => 0)))] ++ [(q4, .inr (1, [.ref (u5 0), .int 0, .int 0, .int 0, .int 0, .int 0])), ((u5 0), .inl (kf_aC G 0, 4, .inl (fun _ => 0)))] ++ [(q6, .inr (1, [.ref (u7 0), .int 0, .int 0, .int 0, .int 0, .int 0])), ((u7 0), .inl (kf_aC G 0, 4, .inl (fun _ => 0)))]) rfl rfl (by decide) rfl E d_X7_init_33 ?_
  refine wc_iinc (lv' := [(1, .int 3), (0, .ref h0)]) 3 0 rfl (by decide) (by decide) rfl E d_X7_init_34 ?_
  refine wc_goto E d_X7_init_37 ?_
  refine wc_iload_n 0 rfl E d_X7_init_15 ?_
  refine wc_bipush 6 bp_6 E d_X7_init_16 ?_
  refine wc_icmp_ge E d_X7_init_18 (fun c => absurd c (by decide)) (fun _ => ?_)
  refine wc_aload_n 1 rfl E d_X7_init_21 ?_
  refine wc_getf (i := 0) fl_X7_11 rfl rfl E d_X7_init_22 ?_
  refine wc_iload_n 0 rfl E d_X7_init_25 ?_
  refine wc_new (fs := [.null, .int 0, .int 0, .int 0, .int 0, .int 0]) nw_X7_1 (Nat.le_of_ble_eq_true rfl) (Nat.le_of_ble_eq_true rfl) E d_X7_init_26 (fun q8 => ?_)
  refine wc_dup rfl E d_X7_init_29 ?_
  refine wc_callI (t0 := [(h0, .inr (7, [.ref q1, .null, .int 0, .int 0, .null])), (q1, .inl (kf_aC G 4, 6, .inr (.inr (.inr (.inr (va_up (va_up (va_up (fun _ => none) (Int32.toNatClampNeg 0) (some q2)) (Int32.toNatClampNeg 1) (some q4)) (Int32.toNatClampNeg 2) (some q6)))))))] ++ [(q2, .inr (1, [.ref (u3 0), .int 0, .int 0, .int 0, .int 0, .int 0])), ((u3 0), .inl (kf_aC G 0, 4, .inl (fun _ => 0)))] ++ [(q4, .inr (1, [.ref (u5 0), .int 0, .int 0, .int 0, .int 0, .int 0])), ((u5 0), .inl (kf_aC G 0, 4, .inl (fun _ => 0)))] ++ [(q6, .inr (1, [.ref (u7 0), .int 0, .int 0, .int 0, .int 0, .int 0])), ((u7 0), .inl (kf_aC G 0, 4, .inl (fun _ => 0)))]) (rest := [.ref q8, .int 3, .ref q1]) (k_X1_init q8) mn_X1_init ml_X7_17 rfl rfl (Nat.le_of_ble_eq_true rfl) (Nat.le_of_ble_eq_true rfl) (Nat.le_of_ble_eq_true rfl) rfl (Nat.le_of_ble_eq_true rfl) E d_X7_init_30 (fun u9 => ?_)
  refine kc_tl (tl' := [(h0, .inr (7, [.ref q1, .null, .int 0, .int 0, .null])), (q1, .inl (kf_aC G 4, 6, .inr (.inr (.inr (.inr (va_up (va_up (va_up (fun _ => none) (Int32.toNatClampNeg 0) (some q2)) (Int32.toNatClampNeg 1) (some q4)) (Int32.toNatClampNeg 2) (some q6)))))))] ++ [(q2, .inr (1, [.ref (u3 0), .int 0, .int 0, .int 0, .int 0, .int 0])), ((u3 0), .inl (kf_aC G 0, 4, .inl (fun _ => 0)))] ++ [(q4, .inr (1, [.ref (u5 0), .int 0, .int 0, .int 0, .int 0, .int 0])), ((u5 0), .inl (kf_aC G 0, 4, .inl (fun _ => 0)))] ++ [(q6, .inr (1, [.ref (u7 0), .int 0, .int 0, .int 0, .int 0, .int 0])), ((u7 0), .inl (kf_aC G 0, 4, .inl (fun _ => 0)))] ++ [(q8, .inr (1, [.ref (u9 0), .int 0, .int 0, .int 0, .int 0, .int 0])), ((u9 0), .inl (kf_aC G 0, 4, .inl (fun _ => 0)))]) rfl ?_
  refine wc_astq (i := 1) (i2 := 8) (tl' := [(h0, .inr (7, [.ref q1, .null, .int 0, .int 0, .null])), (q1, .inl (kf_aC G 4, 6, .inr (.inr (.inr (.inr (va_up (va_up (va_up (va_up (fun _ => none) (Int32.toNatClampNeg 0) (some q2)) (Int32.toNatClampNeg 1) (some q4)) (Int32.toNatClampNeg 2) (some q6)) (Int32.toNatClampNeg 3) (some q8)))))))] ++ [(q2, .inr (1, [.ref (u3 0), .int 0, .int 0, .int 0, .int 0, .int 0])), ((u3 0), .inl (kf_aC G 0, 4, .inl (fun _ => 0)))] ++ [(q4, .inr (1, [.ref (u5 0), .int 0, .int 0, .int 0, .int 0, .int 0])), ((u5 0), .inl (kf_aC G 0, 4, .inl (fun _ => 0)))] ++ [(q6, .inr (1, [.ref (u7 0), .int 0, .int 0, .int 0, .int 0, .int 0])), ((u7 0), .inl (kf_aC G 0, 4, .inl (fun _ => 0)))] ++ [(q8, .inr (1, [.ref (u9 0), .int 0, .int 0, .int 0, .int 0, .int 0])), ((u9 0), .inl (kf_aC G 0, 4, .inl (fun _ => 0)))]) rfl rfl (by decide) rfl E d_X7_init_33 ?_
  refine wc_iinc (lv' := [(1, .int 4), (0, .ref h0)]) 4 0 rfl (by decide) (by decide) rfl E d_X7_init_34 ?_
  refine wc_goto E d_X7_init_37 ?_
  refine wc_iload_n 0 rfl E d_X7_init_15 ?_
  refine wc_bipush 6 bp_6 E d_X7_init_16 ?_
  refine wc_icmp_ge E d_X7_init_18 (fun c => absurd c (by decide)) (fun _ => ?_)
  refine wc_aload_n 1 rfl E d_X7_init_21 ?_
  refine wc_getf (i := 0) fl_X7_11 rfl rfl E d_X7_init_22 ?_
  refine wc_iload_n 0 rfl E d_X7_init_25 ?_
  refine wc_new (fs := [.null, .int 0, .int 0, .int 0, .int 0, .int 0]) nw_X7_1 (Nat.le_of_ble_eq_true rfl) (Nat.le_of_ble_eq_true rfl) E d_X7_init_26 (fun q10 => ?_)
  refine wc_dup rfl E d_X7_init_29 ?_
  refine wc_callI (t0 := [(h0, .inr (7, [.ref q1, .null, .int 0, .int 0, .null])), (q1, .inl (kf_aC G 4, 6, .inr (.inr (.inr (.inr (va_up (va_up (va_up (va_up (fun _ => none) (Int32.toNatClampNeg 0) (some q2)) (Int32.toNatClampNeg 1) (some q4)) (Int32.toNatClampNeg 2) (some q6)) (Int32.toNatClampNeg 3) (some q8)))))))] ++ [(q2, .inr (1, [.ref (u3 0), .int 0, .int 0, .int 0, .int 0, .int 0])), ((u3 0), .inl (kf_aC G 0, 4, .inl (fun _ => 0)))] ++ [(q4, .inr (1, [.ref (u5 0), .int 0, .int 0, .int 0, .int 0, .int 0])), ((u5 0), .inl (kf_aC G 0, 4, .inl (fun _ => 0)))] ++ [(q6, .inr (1, [.ref (u7 0), .int 0, .int 0, .int 0, .int 0, .int 0])), ((u7 0), .inl (kf_aC G 0, 4, .inl (fun _ => 0)))] ++ [(q8, .inr (1, [.ref (u9 0), .int 0, .int 0, .int 0, .int 0, .int 0])), ((u9 0), .inl (kf_aC G 0, 4, .inl (fun _ => 0)))]) (rest := [.ref q10, .int 4, .ref q1]) (k_X1_init q10) mn_X1_init ml_X7_17 rfl rfl (Nat.le_of_ble_eq_true rfl) (Nat.le_of_ble_eq_true rfl) (Nat.le_of_ble_eq_true rfl) rfl (Nat.le_of_ble_eq_true rfl) E d_X7_init_30 (fun u11 => ?_)
  refine kc_tl (tl' := [(h0, .inr (7, [.ref q1, .null, .int 0, .int 0, .null])), (q1, .inl (kf_aC G 4, 6, .inr (.inr (.inr (.inr (va_up (va_up (va_up (va_up (fun _ => none) (Int32.toNatClampNeg 0) (some q2)) (Int32.toNatClampNeg 1) (some q4)) (Int32.toNatClampNeg 2) (some q6)) (Int32.toNatClampNeg 3) (some q8)))))))] ++ [(q2, .inr (1, [.ref (u3 0), .int 0, .int 0, .int 0, .int 0, .int 0])), ((u3 0), .inl (kf_aC G 0, 4, .inl (fun _ => 0)))] ++ [(q4, .inr (1, [.ref (u5 0), .int 0, .int 0, .int 0, .int 0, .int 0])), ((u5 0), .inl (kf_aC G 0, 4, .inl (fun _ => 0)))] ++ [(q6, .inr (1, [.ref (u7 0), .int 0, .int 0, .int 0, .int 0, .int 0])), ((u7 0), .inl (kf_aC G 0, 4, .inl (fun _ => 0)))] ++ [(q8, .inr (1, [.ref (u9 0), .int 0, .int 0, .int 0, .int 0, .int 0])), ((u9 0), .inl (kf_aC G 0, 4, .inl (fun _ => 0)))] ++ [(q10, .inr (1, [.ref (u11 0), .int 0, .int 0, .int 0, .int 0, .int 0])), ((u11 0), .inl (kf_aC G 0, 4, .inl (fun _ => 0)))]) rfl ?_
  refine wc_astq (i := 1) (i2 := 10) (tl' := [(h0, .inr (7, [.ref q1, .null, .int 0, .int 0, .null])), (q1, .inl (kf_aC G 4, 6, .inr (.inr (.inr (.inr (va_up (va_up (va_up (va_up (va_up (fun _ => none) (Int32.toNatClampNeg 0) (some q2)) (Int32.toNatClampNeg 1) (some q4)) (Int32.toNatClampNeg 2) (some q6)) (Int32.toNatClampNeg 3) (some q8)) (Int32.toNatClampNeg 4) (some q10)))))))] ++ [(q2, .inr (1, [.ref (u3 0), .int 0, .int 0, .int 0, .int 0, .int 0])), ((u3 0), .inl (kf_aC G 0, 4, .inl (fun _ => 0)))] ++ [(q4, .inr (1, [.ref (u5 0), .int 0, .int 0, .int 0, .int 0, .int 0])), ((u5 0), .inl (kf_aC G 0, 4, .inl (fun _ => 0)))] ++ [(q6, .inr (1, [.ref (u7 0), .int 0, .int 0, .int 0, .int 0, .int 0])), ((u7 0), .inl (kf_aC G 0, 4, .inl (fun _ => 0)))] ++ [(q8, .inr (1, [.ref (u9 0), .int 0, .int 0, .int 0, .int 0, .int 0])), ((u9 0), .inl (kf_aC G 0, 4, .inl (fun _ => 0)))] ++ [(q10, .inr (1, [.ref (u11 0), .int 0, .int 0, .int 0, .int 0, .int 0])), ((u11 0), .inl (kf_aC G 0, 4, .inl (fun _ => 0)))]) rfl rfl (by decide) rfl E d_X7_init_33 ?_
  refine wc_iinc (lv' := [(1, .int 5), (0, .ref h0)]) 5 0 rfl (by decide) (by decide) rfl E d_X7_init_34 ?_
  refine wc_goto E d_X7_init_37 ?_
  refine wc_iload_n 0 rfl E d_X7_init_15 ?_
  refine wc_bipush 6 bp_6 E d_X7_init_16 ?_
  refine wc_icmp_ge E d_X7_init_18 (fun c => absurd c (by decide)) (fun _ => ?_)
  refine wc_aload_n 1 rfl E d_X7_init_21 ?_
  refine wc_getf (i := 0) fl_X7_11 rfl rfl E d_X7_init_22 ?_
  refine wc_iload_n 0 rfl E d_X7_init_25 ?_
  refine wc_new (fs := [.null, .int 0, .int 0, .int 0, .int 0, .int 0]) nw_X7_1 (Nat.le_of_ble_eq_true rfl) (Nat.le_of_ble_eq_true rfl) E d_X7_init_26 (fun q12 => ?_)
  refine wc_dup rfl E d_X7_init_29 ?_
  refine wc_callI (t0 := [(h0, .inr (7, [.ref q1, .null, .int 0, .int 0, .null])), (q1, .inl (kf_aC G 4, 6, .inr (.inr (.inr (.inr (va_up (va_up (va_up (va_up (va_up (fun _ => none) (Int32.toNatClampNeg 0) (some q2)) (Int32.toNatClampNeg 1) (some q4)) (Int32.toNatClampNeg 2) (some q6)) (Int32.toNatClampNeg 3) (some q8)) (Int32.toNatClampNeg 4) (some q10)))))))] ++ [(q2, .inr (1, [.ref (u3 0), .int 0, .int 0, .int 0, .int 0, .int 0])), ((u3 0), .inl (kf_aC G 0, 4, .inl (fun _ => 0)))] ++ [(q4, .inr (1, [.ref (u5 0), .int 0, .int 0, .int 0, .int 0, .int 0])), ((u5 0), .inl (kf_aC G 0, 4, .inl (fun _ => 0)))] ++ [(q6, .inr (1, [.ref (u7 0), .int 0, .int 0, .int 0, .int 0, .int 0])), ((u7 0), .inl (kf_aC G 0, 4, .inl (fun _ => 0)))] ++ [(q8, .inr (1, [.ref (u9 0), .int 0, .int 0, .int 0, .int 0, .int 0])), ((u9 0), .inl (kf_aC G 0, 4, .inl (fun _ => 0)))] ++ [(q10, .inr (1, [.ref (u11 0), .int 0, .int 0, .int 0, .int 0, .int 0])), ((u11 0), .inl (kf_aC G 0, 4, .inl (fun _ => 0)))]) (rest := [.ref q12, .int 5, .ref q1]) (k_X1_init q12) mn_X1_init ml_X7_17 rfl rfl (Nat.le_of_ble_eq_true rfl) (Nat.le_of_ble_eq_true rfl) (Nat.le_of_ble_eq_true rfl) rfl (Nat.le_of_ble_eq_true rfl) E d_X7_init_30 (fun u13 => ?_)
  refine kc_tl (tl' := [(h0, .inr (7, [.ref q1, .null, .int 0, .int 0, .null])), (q1, .inl (kf_aC G 4, 6, .inr (.inr (.inr (.inr (va_up (va_up (va_up (va_up (va_up (fun _ => none) (Int32.toNatClampNeg 0) (some q2)) (Int32.toNatClampNeg 1) (some q4)) (Int32.toNatClampNeg 2) (some q6)) (Int32.toNatClampNeg 3) (some q8)) (Int32.toNatClampNeg 4) (some q10)))))))] ++ [(q2, .inr (1, [.ref (u3 0), .int 0, .int 0, .int 0, .int 0, .int 0])), ((u3 0), .inl (kf_aC G 0, 4, .inl (fun _ => 0)))] ++ [(q4, .inr (1, [.ref (u5 0), .int 0, .int 0, .int 0, .int 0, .int 0])), ((u5 0), .inl (kf_aC G 0, 4, .inl (fun _ => 0)))] ++ [(q6, .inr (1, [.ref (u7 0), .int 0, .int 0, .int 0, .int 0, .int 0])), ((u7 0), .inl (kf_aC G 0, 4, .inl (fun _ => 0)))] ++ [(q8, .inr (1, [.ref (u9 0), .int 0, .int 0, .int 0, .int 0, .int 0])), ((u9 0), .inl (kf_aC G 0, 4, .inl (fun _ => 0)))] ++ [(q10, .inr (1, [.ref (u11 0), .int 0, .int 0, .int 0, .int 0, .int 0])), ((u11 0), .inl (kf_aC G 0, 4, .inl (fun _ => 0)))] ++ [(q12, .inr (1, [.ref (u13 0), .int 0, .int 0, .int 0, .int 0, .int 0])), ((u13 0), .inl (kf_aC G 0, 4, .inl (fun _ => 0)))]) rfl ?_
  refine wc_astq (i := 1) (i2 := 12) (tl' := [(h0, .inr (7, [.ref q1, .null, .int 0, .int 0, .null])), (q1, .inl (kf_aC G 4, 6, .inr (.inr (.inr (.inr (va_up (va_up (va_up (va_up (va_up (va_up (fun _ => none) (Int32.toNatClampNeg 0) (some q2)) (Int32.toNatClampNeg 1) (some q4)) (Int32.toNatClampNeg 2) (some q6)) (Int32.toNatClampNeg 3) (some q8)) (Int32.toNatClampNeg 4) (some q10)) (Int32.toNatClampNeg 5) (some q12)))))))] ++ [(q2, .inr (1, [.ref (u3 0), .int 0, .int 0, .int 0, .int 0, .int 0])), ((u3 0), .inl (kf_aC G 0, 4, .inl (fun _ => 0)))] ++ [(q4, .inr (1, [.ref (u5 0), .int 0, .int 0, .int 0, .int 0, .int 0])), ((u5 0), .inl (kf_aC G 0, 4, .inl (fun _ => 0)))] ++ [(q6, .inr (1, [.ref (u7 0), .int 0, .int 0, .int 0, .int 0, .int 0])), ((u7 0), .inl (kf_aC G 0, 4, .inl (fun _ => 0)))] ++ [(q8, .inr (1, [.ref (u9 0), .int 0, .int 0, .int 0, .int 0, .int 0])), ((u9 0), .inl (kf_aC G 0, 4, .inl (fun _ => 0)))] ++ [(q10, .inr (1, [.ref (u11 0), .int 0, .int 0, .int 0, .int 0, .int 0])), ((u11 0), .inl (kf_aC G 0, 4, .inl (fun _ => 0)))] ++ [(q12, .inr (1, [.ref (u13 0), .int 0, .int 0, .int 0, .int 0, .int 0])), ((u13 0), .inl (kf_aC G 0, 4, .inl (fun _ => 0)))]) rfl rfl (by decide) rfl E d_X7_init_33 ?_
  refine wc_iinc (lv' := [(1, .int 6), (0, .ref h0)]) 6 0 rfl (by decide) (by decide) rfl E d_X7_init_34 ?_
  refine wc_goto E d_X7_init_37 ?_
  refine wc_iload_n 0 rfl E d_X7_init_15 ?_
  refine wc_bipush 6 bp_6 E d_X7_init_16 ?_
  refine wc_icmp_ge E d_X7_init_18 (fun _ => ?_) (fun c => absurd (by decide) c)
  refine wc_aload_n 1 rfl E d_X7_init_40 ?_
  refine wc_iconst 5 ic_5 E d_X7_init_41 ?_
  refine wc_newa0 (N := 5) ac_int (by decide) (by decide) (by decide) (Nat.le_of_ble_eq_true rfl) (Nat.le_of_ble_eq_true rfl) E d_X7_init_42 (fun q14 => ?_)
  refine kc_tl (tl' := [(h0, .inr (7, [.ref q1, .null, .int 0, .int 0, .null])), (q1, .inl (kf_aC G 4, 6, .inr (.inr (.inr (.inr (va_up (va_up (va_up (va_up (va_up (va_up (fun _ => none) (Int32.toNatClampNeg 0) (some q2)) (Int32.toNatClampNeg 1) (some q4)) (Int32.toNatClampNeg 2) (some q6)) (Int32.toNatClampNeg 3) (some q8)) (Int32.toNatClampNeg 4) (some q10)) (Int32.toNatClampNeg 5) (some q12)))))))] ++ [(q2, .inr (1, [.ref (u3 0), .int 0, .int 0, .int 0, .int 0, .int 0])), ((u3 0), .inl (kf_aC G 0, 4, .inl (fun _ => 0)))] ++ [(q4, .inr (1, [.ref (u5 0), .int 0, .int 0, .int 0, .int 0, .int 0])), ((u5 0), .inl (kf_aC G 0, 4, .inl (fun _ => 0)))] ++ [(q6, .inr (1, [.ref (u7 0), .int 0, .int 0, .int 0, .int 0, .int 0])), ((u7 0), .inl (kf_aC G 0, 4, .inl (fun _ => 0)))] ++ [(q8, .inr (1, [.ref (u9 0), .int 0, .int 0, .int 0, .int 0, .int 0])), ((u9 0), .inl (kf_aC G 0, 4, .inl (fun _ => 0)))] ++ [(q10, .inr (1, [.ref (u11 0), .int 0, .int 0, .int 0, .int 0, .int 0])), ((u11 0), .inl (kf_aC G 0, 4, .inl (fun _ => 0)))] ++ [(q12, .inr (1, [.ref (u13 0), .int 0, .int 0, .int 0, .int 0, .int 0])), ((u13 0), .inl (kf_aC G 0, 4, .inl (fun _ => 0))), (q14, .inl (kf_aC G 0, 5, .inl (fun _ => 0)))]) rfl ?_
  refine wc_putF (i := 0) (tl' := [(h0, .inr (7, [.ref q1, .ref q14, .int 0, .int 0, .null])), (q1, .inl (kf_aC G 4, 6, .inr (.inr (.inr (.inr (va_up (va_up (va_up (va_up (va_up (va_up (fun _ => none) (Int32.toNatClampNeg 0) (some q2)) (Int32.toNatClampNeg 1) (some q4)) (Int32.toNatClampNeg 2) (some q6)) (Int32.toNatClampNeg 3) (some q8)) (Int32.toNatClampNeg 4) (some q10)) (Int32.toNatClampNeg 5) (some q12)))))))] ++ [(q2, .inr (1, [.ref (u3 0), .int 0, .int 0, .int 0, .int 0, .int 0])), ((u3 0), .inl (kf_aC G 0, 4, .inl (fun _ => 0)))] ++ [(q4, .inr (1, [.ref (u5 0), .int 0, .int 0, .int 0, .int 0, .int 0])), ((u5 0), .inl (kf_aC G 0, 4, .inl (fun _ => 0)))] ++ [(q6, .inr (1, [.ref (u7 0), .int 0, .int 0, .int 0, .int 0, .int 0])), ((u7 0), .inl (kf_aC G 0, 4, .inl (fun _ => 0)))] ++ [(q8, .inr (1, [.ref (u9 0), .int 0, .int 0, .int 0, .int 0, .int 0])), ((u9 0), .inl (kf_aC G 0, 4, .inl (fun _ => 0)))] ++ [(q10, .inr (1, [.ref (u11 0), .int 0, .int 0, .int 0, .int 0, .int 0])), ((u11 0), .inl (kf_aC G 0, 4, .inl (fun _ => 0)))] ++ [(q12, .inr (1, [.ref (u13 0), .int 0, .int 0, .int 0, .int 0, .int 0])), ((u13 0), .inl (kf_aC G 0, 4, .inl (fun _ => 0))), (q14, .inl (kf_aC G 0, 5, .inl (fun _ => 0)))]) fl_X7_18 fpf_7_1 hname rfl rfl rfl (Nat.le_of_ble_eq_true rfl) rfl E d_X7_init_44 ?_
  refine wc_aload_n 1 rfl E d_X7_init_47 ?_
  refine wc_bipush 24 bp_24 E d_X7_init_48 ?_
  refine wc_newa0 (N := 24) ac_int (by decide) (by decide) (by decide) (Nat.le_of_ble_eq_true rfl) (Nat.le_of_ble_eq_true rfl) E d_X7_init_50 (fun q15 => ?_)
  refine kc_tl (tl' := [(h0, .inr (7, [.ref q1, .ref q14, .int 0, .int 0, .null])), (q1, .inl (kf_aC G 4, 6, .inr (.inr (.inr (.inr (va_up (va_up (va_up (va_up (va_up (va_up (fun _ => none) (Int32.toNatClampNeg 0) (some q2)) (Int32.toNatClampNeg 1) (some q4)) (Int32.toNatClampNeg 2) (some q6)) (Int32.toNatClampNeg 3) (some q8)) (Int32.toNatClampNeg 4) (some q10)) (Int32.toNatClampNeg 5) (some q12)))))))] ++ [(q2, .inr (1, [.ref (u3 0), .int 0, .int 0, .int 0, .int 0, .int 0])), ((u3 0), .inl (kf_aC G 0, 4, .inl (fun _ => 0)))] ++ [(q4, .inr (1, [.ref (u5 0), .int 0, .int 0, .int 0, .int 0, .int 0])), ((u5 0), .inl (kf_aC G 0, 4, .inl (fun _ => 0)))] ++ [(q6, .inr (1, [.ref (u7 0), .int 0, .int 0, .int 0, .int 0, .int 0])), ((u7 0), .inl (kf_aC G 0, 4, .inl (fun _ => 0)))] ++ [(q8, .inr (1, [.ref (u9 0), .int 0, .int 0, .int 0, .int 0, .int 0])), ((u9 0), .inl (kf_aC G 0, 4, .inl (fun _ => 0)))] ++ [(q10, .inr (1, [.ref (u11 0), .int 0, .int 0, .int 0, .int 0, .int 0])), ((u11 0), .inl (kf_aC G 0, 4, .inl (fun _ => 0)))] ++ [(q12, .inr (1, [.ref (u13 0), .int 0, .int 0, .int 0, .int 0, .int 0])), ((u13 0), .inl (kf_aC G 0, 4, .inl (fun _ => 0))), (q14, .inl (kf_aC G 0, 5, .inl (fun _ => 0))), (q15, .inl (kf_aC G 0, 24, .inl (fun _ => 0)))]) rfl ?_
  refine wc_putF (i := 0) (tl' := [(h0, .inr (7, [.ref q1, .ref q14, .int 0, .int 0, .ref q15])), (q1, .inl (kf_aC G 4, 6, .inr (.inr (.inr (.inr (va_up (va_up (va_up (va_up (va_up (va_up (fun _ => none) (Int32.toNatClampNeg 0) (some q2)) (Int32.toNatClampNeg 1) (some q4)) (Int32.toNatClampNeg 2) (some q6)) (Int32.toNatClampNeg 3) (some q8)) (Int32.toNatClampNeg 4) (some q10)) (Int32.toNatClampNeg 5) (some q12)))))))] ++ [(q2, .inr (1, [.ref (u3 0), .int 0, .int 0, .int 0, .int 0, .int 0])), ((u3 0), .inl (kf_aC G 0, 4, .inl (fun _ => 0)))] ++ [(q4, .inr (1, [.ref (u5 0), .int 0, .int 0, .int 0, .int 0, .int 0])), ((u5 0), .inl (kf_aC G 0, 4, .inl (fun _ => 0)))] ++ [(q6, .inr (1, [.ref (u7 0), .int 0, .int 0, .int 0, .int 0, .int 0])), ((u7 0), .inl (kf_aC G 0, 4, .inl (fun _ => 0)))] ++ [(q8, .inr (1, [.ref (u9 0), .int 0, .int 0, .int 0, .int 0, .int 0])), ((u9 0), .inl (kf_aC G 0, 4, .inl (fun _ => 0)))] ++ [(q10, .inr (1, [.ref (u11 0), .int 0, .int 0, .int 0, .int 0, .int 0])), ((u11 0), .inl (kf_aC G 0, 4, .inl (fun _ => 0)))] ++ [(q12, .inr (1, [.ref (u13 0), .int 0, .int 0, .int 0, .int 0, .int 0])), ((u13 0), .inl (kf_aC G 0, 4, .inl (fun _ => 0))), (q14, .inl (kf_aC G 0, 5, .inl (fun _ => 0))), (q15, .inl (kf_aC G 0, 24, .inl (fun _ => 0)))]) fl_X7_22 fpf_7_4 hname rfl rfl rfl (Nat.le_of_ble_eq_true rfl) rfl E d_X7_init_52 ?_
  exact kc_vret (fun i => [q1, q2, (u3 0), q4, (u5 0), q6, (u7 0), q8, (u9 0), q10, (u11 0), q12, (u13 0), q14, q15].getD i 0) rfl rfl E d_X7_init_55
