section KF0
variable {X : kf_X} {G : kf_G} {B : Nat} {cc : ByteArray} {own : String} {nL : Nat} {ret : Option FieldType} {d MC MS : Nat} {Q : State → Prop} {wr r : va_W} {n k pc pc1 tgt : Nat} {lv : List (Nat × Value)} {st : List Value} {o : Nat × va_E}
theorem wc_putF0 {ix c j a : Nat} {fs fs' : List Value} {v : Value} {ty : FieldType} (hF : kf_FL own ix c j) (hG : kc_FPF c j own ty) (hname : (kx_t X).name = "<init>") (hn : narrow ty v = v) (hfit : fits ty v = true) (hlen : j < fs.length) (hfs : fs.set j v = fs') (E : kc_ok X G B cc own nL ret d MC MS) (hd : kf_dq cc pc pc1 3 (.putfield ix)) (kk : kc_W X G B nL Q wr ([(a, .inr (c, fs'))] ++ r) n k pc1 lv st) : kc_W X G B nL Q wr ([(a, .inr (c, fs))] ++ r) n k pc lv (v :: .ref a :: st) := by
  subst hfs
  exact wc_putF (i := 0) hF hG hname rfl hn hfit hlen rfl E hd kk
theorem wc_getf0 {ix c j a : Nat} {fs : List Value} {v : Value} (hF : kf_FL own ix c j) (hv : fs[j]? = some v) (E : kc_ok X G B cc own nL ret d MC MS) (hd : kf_dq cc pc pc1 3 (.getfield ix)) (kk : kc_W X G B nL Q wr ([(a, .inr (c, fs))] ++ r) n k pc1 lv (v :: st)) : kc_W X G B nL Q wr ([(a, .inr (c, fs))] ++ r) n k pc lv (.ref a :: st) := wc_getf (i := 0) hF rfl hv E hd kk
theorem wc_new0 {ix c N : Nat} {fs : List Value} (hw : kc_NW own ix c N fs) (hc : n + 1 ≤ MC) (hs : k + N ≤ MS) (E : kc_ok X G B cc own nL ret d MC MS) (hd : kf_dq cc pc pc1 3 (.new ix)) (kk : ∀ q : Nat, kc_W X G B nL Q wr ([o] ++ (r ++ [(q, .inr (c, fs))])) (n + 1) (k + N) pc1 lv (.ref q :: st)) : kc_W X G B nL Q wr ([o] ++ r) n k pc lv st := wc_new hw hc hs E hd (fun q => kc_tl (List.append_assoc _ _ _) (kk q))
theorem wc_callI0 {y : MethodName} {cc' : ByteArray} {mL na ix d' mc ms a : Nat} {As rest : List Value} {ws0 : va_W} {ws1 : (Nat → Nat) → va_W} (hc : kc_Ct d' mc ms y cc' mL none G B (.ref a :: As) ws0 (fun _ => none) ws1) (hmn : kc_mn y cc' mL na) (hl : Cond.methodLink own ix y ∈ kf_T) (hn : As.length = na) (hdd : d' < d) (hC : n + mc ≤ MC) (hM : k + ms ≤ MS) (hst : st = As.reverse ++ .ref a :: rest) (hr : (rest.map fun v => v.category).sum ≤ 8) (E : kc_ok X G B cc own nL ret d MC MS) (hd : kf_dq cc pc pc1 3 (.invokespecial ix)) (kk : ∀ u : Nat → Nat, kc_W X G B nL Q wr ([o] ++ (r ++ ws1 u)) (n + mc) (k + ms) pc1 lv rest) : kc_W X G B nL Q wr ([o] ++ (r ++ ws0)) n k pc lv st :=
  wc_callI (t0 := [o] ++ r) hc hmn hl (List.append_assoc _ _ _).symm hn hdd hC hM hst hr E hd (fun u => kc_tl (List.append_assoc _ _ _) (kk u))
end KF0
theorem d_X11_init_0 : kf_dq cX11_init 0 1 1 (.aload_n 0) := ⟨by decide +kernel, rfl⟩
theorem d_X11_init_1 : kf_dq cX11_init 1 4 3 (.invokespecial 1) := ⟨by decide +kernel, rfl⟩
theorem d_X11_init_4 : kf_dq cX11_init 4 5 1 (.aload_n 0) := ⟨by decide +kernel, rfl⟩
theorem d_X11_init_5 : kf_dq cX11_init 5 8 3 (.new 7) := ⟨by decide +kernel, rfl⟩
theorem d_X11_init_8 : kf_dq cX11_init 8 9 1 (.dup) := ⟨by decide +kernel, rfl⟩
theorem d_X11_init_9 : kf_dq cX11_init 9 12 3 (.invokespecial 9) := ⟨by decide +kernel, rfl⟩
theorem d_X11_init_12 : kf_dq cX11_init 12 15 3 (.putfield 10) := ⟨by decide +kernel, rfl⟩
theorem d_X11_init_15 : kf_dq cX11_init 15 16 1 (.aload_n 0) := ⟨by decide +kernel, rfl⟩
theorem d_X11_init_16 : kf_dq cX11_init 16 19 3 (.new 16) := ⟨by decide +kernel, rfl⟩
theorem d_X11_init_19 : kf_dq cX11_init 19 20 1 (.dup) := ⟨by decide +kernel, rfl⟩
theorem d_X11_init_20 : kf_dq cX11_init 20 23 3 (.invokespecial 18) := ⟨by decide +kernel, rfl⟩
theorem d_X11_init_23 : kf_dq cX11_init 23 26 3 (.putfield 19) := ⟨by decide +kernel, rfl⟩
theorem d_X11_init_26 : kf_dq cX11_init 26 27 1 (.aload_n 0) := ⟨by decide +kernel, rfl⟩
theorem d_X11_init_27 : kf_dq cX11_init 27 30 3 (.new 16) := ⟨by decide +kernel, rfl⟩
theorem d_X11_init_30 : kf_dq cX11_init 30 31 1 (.dup) := ⟨by decide +kernel, rfl⟩
theorem d_X11_init_31 : kf_dq cX11_init 31 34 3 (.invokespecial 18) := ⟨by decide +kernel, rfl⟩
theorem d_X11_init_34 : kf_dq cX11_init 34 37 3 (.putfield 23) := ⟨by decide +kernel, rfl⟩
theorem d_X11_init_37 : kf_dq cX11_init 37 38 1 (.aload_n 0) := ⟨by decide +kernel, rfl⟩
theorem d_X11_init_38 : kf_dq cX11_init 38 41 3 (.new 26) := ⟨by decide +kernel, rfl⟩
theorem d_X11_init_41 : kf_dq cX11_init 41 42 1 (.dup) := ⟨by decide +kernel, rfl⟩
theorem d_X11_init_42 : kf_dq cX11_init 42 43 1 (.aload_n 0) := ⟨by decide +kernel, rfl⟩
theorem d_X11_init_43 : kf_dq cX11_init 43 46 3 (.getfield 10) := ⟨by decide +kernel, rfl⟩
theorem d_X11_init_46 : kf_dq cX11_init 46 47 1 (.aload_n 0) := ⟨by decide +kernel, rfl⟩
theorem d_X11_init_47 : kf_dq cX11_init 47 50 3 (.getfield 23) := ⟨by decide +kernel, rfl⟩
theorem d_X11_init_50 : kf_dq cX11_init 50 53 3 (.invokespecial 28) := ⟨by decide +kernel, rfl⟩
theorem d_X11_init_53 : kf_dq cX11_init 53 56 3 (.putfield 31) := ⟨by decide +kernel, rfl⟩
theorem d_X11_init_56 : kf_dq cX11_init 56 57 1 (.aload_n 0) := ⟨by decide +kernel, rfl⟩
theorem d_X11_init_57 : kf_dq cX11_init 57 60 3 (.new 35) := ⟨by decide +kernel, rfl⟩
theorem d_X11_init_60 : kf_dq cX11_init 60 61 1 (.dup) := ⟨by decide +kernel, rfl⟩
theorem d_X11_init_61 : kf_dq cX11_init 61 64 3 (.invokespecial 37) := ⟨by decide +kernel, rfl⟩
theorem d_X11_init_64 : kf_dq cX11_init 64 67 3 (.putfield 38) := ⟨by decide +kernel, rfl⟩
theorem d_X11_init_67 : kf_dq cX11_init 67 68 1 (.aload_n 0) := ⟨by decide +kernel, rfl⟩
theorem d_X11_init_68 : kf_dq cX11_init 68 71 3 (.new 42) := ⟨by decide +kernel, rfl⟩
theorem d_X11_init_71 : kf_dq cX11_init 71 72 1 (.dup) := ⟨by decide +kernel, rfl⟩
theorem d_X11_init_72 : kf_dq cX11_init 72 75 3 (.invokespecial 44) := ⟨by decide +kernel, rfl⟩
theorem d_X11_init_75 : kf_dq cX11_init 75 78 3 (.putfield 45) := ⟨by decide +kernel, rfl⟩
theorem d_X11_init_78 : kf_dq cX11_init 78 79 1 (.aload_n 0) := ⟨by decide +kernel, rfl⟩
theorem d_X11_init_79 : kf_dq cX11_init 79 82 3 (.new 49) := ⟨by decide +kernel, rfl⟩
theorem d_X11_init_82 : kf_dq cX11_init 82 83 1 (.dup) := ⟨by decide +kernel, rfl⟩
theorem d_X11_init_83 : kf_dq cX11_init 83 84 1 (.aload_n 0) := ⟨by decide +kernel, rfl⟩
theorem d_X11_init_84 : kf_dq cX11_init 84 87 3 (.getfield 19) := ⟨by decide +kernel, rfl⟩
theorem d_X11_init_87 : kf_dq cX11_init 87 90 3 (.invokespecial 51) := ⟨by decide +kernel, rfl⟩
theorem d_X11_init_90 : kf_dq cX11_init 90 93 3 (.putfield 54) := ⟨by decide +kernel, rfl⟩
theorem d_X11_init_93 : kf_dq cX11_init 93 94 1 (.aload_n 0) := ⟨by decide +kernel, rfl⟩
theorem d_X11_init_94 : kf_dq cX11_init 94 97 3 (.new 58) := ⟨by decide +kernel, rfl⟩
theorem d_X11_init_97 : kf_dq cX11_init 97 98 1 (.dup) := ⟨by decide +kernel, rfl⟩
theorem d_X11_init_98 : kf_dq cX11_init 98 99 1 (.aload_n 0) := ⟨by decide +kernel, rfl⟩
theorem d_X11_init_99 : kf_dq cX11_init 99 102 3 (.getfield 19) := ⟨by decide +kernel, rfl⟩
theorem d_X11_init_102 : kf_dq cX11_init 102 103 1 (.aload_n 0) := ⟨by decide +kernel, rfl⟩
theorem d_X11_init_103 : kf_dq cX11_init 103 106 3 (.getfield 38) := ⟨by decide +kernel, rfl⟩
theorem d_X11_init_106 : kf_dq cX11_init 106 107 1 (.aload_n 0) := ⟨by decide +kernel, rfl⟩
theorem d_X11_init_107 : kf_dq cX11_init 107 110 3 (.getfield 54) := ⟨by decide +kernel, rfl⟩
theorem d_X11_init_110 : kf_dq cX11_init 110 113 3 (.invokespecial 60) := ⟨by decide +kernel, rfl⟩
theorem d_X11_init_113 : kf_dq cX11_init 113 116 3 (.putfield 63) := ⟨by decide +kernel, rfl⟩
theorem d_X11_init_116 : kf_dq cX11_init 116 117 1 (.aload_n 0) := ⟨by decide +kernel, rfl⟩
theorem d_X11_init_117 : kf_dq cX11_init 117 120 3 (.new 67) := ⟨by decide +kernel, rfl⟩
theorem d_X11_init_120 : kf_dq cX11_init 120 121 1 (.dup) := ⟨by decide +kernel, rfl⟩
theorem d_X11_init_121 : kf_dq cX11_init 121 122 1 (.aload_n 0) := ⟨by decide +kernel, rfl⟩
theorem d_X11_init_122 : kf_dq cX11_init 122 125 3 (.getfield 19) := ⟨by decide +kernel, rfl⟩
theorem d_X11_init_125 : kf_dq cX11_init 125 126 1 (.aload_n 0) := ⟨by decide +kernel, rfl⟩
theorem d_X11_init_126 : kf_dq cX11_init 126 129 3 (.getfield 38) := ⟨by decide +kernel, rfl⟩
theorem d_X11_init_129 : kf_dq cX11_init 129 132 3 (.invokespecial 69) := ⟨by decide +kernel, rfl⟩
theorem d_X11_init_132 : kf_dq cX11_init 132 135 3 (.putfield 72) := ⟨by decide +kernel, rfl⟩
theorem d_X11_init_135 : kf_dq cX11_init 135 136 1 (.aload_n 0) := ⟨by decide +kernel, rfl⟩
theorem d_X11_init_136 : kf_dq cX11_init 136 139 3 (.new 76) := ⟨by decide +kernel, rfl⟩
theorem d_X11_init_139 : kf_dq cX11_init 139 140 1 (.dup) := ⟨by decide +kernel, rfl⟩
theorem d_X11_init_140 : kf_dq cX11_init 140 141 1 (.aload_n 0) := ⟨by decide +kernel, rfl⟩
theorem d_X11_init_141 : kf_dq cX11_init 141 144 3 (.getfield 19) := ⟨by decide +kernel, rfl⟩
theorem d_X11_init_144 : kf_dq cX11_init 144 145 1 (.aload_n 0) := ⟨by decide +kernel, rfl⟩
theorem d_X11_init_145 : kf_dq cX11_init 145 148 3 (.getfield 38) := ⟨by decide +kernel, rfl⟩
theorem d_X11_init_148 : kf_dq cX11_init 148 149 1 (.aload_n 0) := ⟨by decide +kernel, rfl⟩
theorem d_X11_init_149 : kf_dq cX11_init 149 152 3 (.getfield 54) := ⟨by decide +kernel, rfl⟩
theorem d_X11_init_152 : kf_dq cX11_init 152 155 3 (.invokespecial 78) := ⟨by decide +kernel, rfl⟩
theorem d_X11_init_155 : kf_dq cX11_init 155 158 3 (.putfield 79) := ⟨by decide +kernel, rfl⟩
theorem d_X11_init_158 : kf_dq cX11_init 158 159 1 (.return_) := ⟨by decide +kernel, rfl⟩
set_option maxRecDepth 100000 in
set_option maxHeartbeats 8000000 in
theorem k_X11_init {G : kf_G} {B : Nat} (h0 : Nat) : kc_Ct 9 76 9690 yX11_init cX11_init 1 none G B [.ref h0] [(h0, .inr (11, [.null, .null, .null, .null, .null, .null, .null, .null, .null, .null]))] (fun _ => none) (fun u => [(h0, .inr (11, [.ref (u 0), .ref (u 6), .ref (u 24), .ref (u 42), .ref (u 43), .ref (u 59), .ref (u 62), .ref (u 65), .ref (u 69), .ref (u 71)]))] ++ (((((((((([] ++ ([((u 0), .inr (8, [.int 0, .ref (u 1), .ref (u 2), .ref (u 3), .ref (u 4), .ref (u 5), .int 0, .int 0, .long 0])), ((u 1), .inl (kf_aC G 2, 2000, .inl (fun _ => 0))), ((u 2), .inl (kf_aC G 1, 21, .inr (.inl kf_codes))), ((u 3), .inl (kf_aC G 0, 401, .inl (fun _ => 0))), ((u 4), .inl (kf_aC G 0, 401, .inl (fun _ => 0))), ((u 5), .inl (kf_aC G 1, 401, .inr (.inl (fun _ => 0))))])) ++ (kf_W (kc_GT G [(u 6), (u 7), (u 8), (u 9), (u 10), (u 11), (u 12), (u 13), (u 14), (u 15), (u 16), (u 17), (u 18), (u 19), (u 20), (u 21), (u 22), (u 23)]) kf_sT)) ++ (kf_W (kc_GT G [(u 24), (u 25), (u 26), (u 27), (u 28), (u 29), (u 30), (u 31), (u 32), (u 33), (u 34), (u 35), (u 36), (u 37), (u 38), (u 39), (u 40), (u 41)]) kf_sT)) ++ ([((u 42), .inr (6, [.int 0, .int (-1), .ref (u 0), .ref (u 24), .int 0, .int 0, .int 0, .int 0]))])) ++ ([((u 43), .inr (7, [.ref (u 44), .ref (u 57), .int 0, .int 0, .ref (u 58)])), ((u 44), .inl (kf_aC G 4, 6, .inr (.inr (.inr (.inr (va_up (va_up (va_up (va_up (va_up (va_up (fun _ => none) (Int32.toNatClampNeg 0) (some (u 45))) (Int32.toNatClampNeg 1) (some (u 47))) (Int32.toNatClampNeg 2) (some (u 49))) (Int32.toNatClampNeg 3) (some (u 51))) (Int32.toNatClampNeg 4) (some (u 53))) (Int32.toNatClampNeg 5) (some (u 55))))))))] ++ [((u 45), .inr (1, [.ref (u 46), .int 0, .int 0, .int 0, .int 0, .int 0])), ((u 46), .inl (kf_aC G 0, 4, .inl (fun _ => 0)))] ++ [((u 47), .inr (1, [.ref (u 48), .int 0, .int 0, .int 0, .int 0, .int 0])), ((u 48), .inl (kf_aC G 0, 4, .inl (fun _ => 0)))] ++ [((u 49), .inr (1, [.ref (u 50), .int 0, .int 0, .int 0, .int 0, .int 0])), ((u 50), .inl (kf_aC G 0, 4, .inl (fun _ => 0)))] ++ [((u 51), .inr (1, [.ref (u 52), .int 0, .int 0, .int 0, .int 0, .int 0])), ((u 52), .inl (kf_aC G 0, 4, .inl (fun _ => 0)))] ++ [((u 53), .inr (1, [.ref (u 54), .int 0, .int 0, .int 0, .int 0, .int 0])), ((u 54), .inl (kf_aC G 0, 4, .inl (fun _ => 0)))] ++ [((u 55), .inr (1, [.ref (u 56), .int 0, .int 0, .int 0, .int 0, .int 0])), ((u 56), .inl (kf_aC G 0, 4, .inl (fun _ => 0))), ((u 57), .inl (kf_aC G 0, 5, .inl (fun _ => 0))), ((u 58), .inl (kf_aC G 0, 24, .inl (fun _ => 0)))])) ++ ([((u 59), .inr (3, [.int 0, .int 0, .int 0, .ref (u 60), .ref (u 61)])), ((u 60), .inl (kf_aC G 0, 2440, .inl (fun _ => 0))), ((u 61), .inl (kf_aC G 0, 183, .inl (fun _ => 0)))])) ++ ([((u 62), .inr (4, [.ref (u 6), .ref (u 63), .ref (u 64)])), ((u 63), .inl (kf_aC G 0, 9, .inl (fun _ => 0))), ((u 64), .inl (kf_aC G 0, 4, .inl (fun _ => 0)))])) ++ ([((u 65), .inr (0, [.ref (u 6), .ref (u 43), .ref (u 62), .ref (u 66), .ref (u 68)]))] ++ [((u 66), .inr (1, [.ref (u 67), .int 0, .int 0, .int 0, .int 0, .int 0])), ((u 67), .inl (kf_aC G 0, 4, .inl (fun _ => 0))), ((u 68), .inl (kf_aC G 0, 624, .inl (fun _ => 0)))])) ++ ([((u 69), .inr (5, [.ref (u 6), .ref (u 43), .ref (u 70)])), ((u 70), .inl (kf_aC G 0, 224, .inl (fun _ => 0)))])) ++ ([((u 71), .inr (9, [.int 0, .ref (u 6), .ref (u 43), .ref (u 62), .ref (u 72), .ref (u 73), .ref (u 74), .ref (u 75)])), ((u 72), .inl (kf_aC G 0, 20, .inl (fun _ => 0))), ((u 73), .inl (kf_aC G 0, 20, .inl (fun _ => 0))), ((u 74), .inl (kf_aC G 0, 20, .inl (fun _ => 0))), ((u 75), .inl (kf_aC G 0, 3, .inl (fun _ => 0)))]))) := by
  refine kc_Ct.of (lv := [(0, .ref h0)]) (by decide +kernel) rfl (Nat.le_of_ble_eq_true rfl) (fun X wr E hname => ?_)
  refine kc_tl (tl' := [(h0, .inr (11, [.null, .null, .null, .null, .null, .null, .null, .null, .null, .null]))] ++ []) rfl ?_
  refine wc_aload_n 0 rfl E d_X11_init_0 ?_
  refine wc_objInit oml_X11_1 oi_i oi_c (Nat.le_of_ble_eq_true rfl) (Nat.le_of_ble_eq_true rfl) E d_X11_init_1 ?_
  refine wc_aload_n 0 rfl E d_X11_init_4 ?_
  refine wc_new0 (fs := [.int 0, .null, .null, .null, .null, .null, .int 0, .int 0, .long 0]) nw_X11_7 (Nat.le_of_ble_eq_true rfl) (Nat.le_of_ble_eq_true rfl) E d_X11_init_5 (fun q1 => ?_)
  refine wc_dup rfl E d_X11_init_8 ?_
  refine wc_callI0 (rest := [.ref q1, .ref h0]) (k_X8_init q1) mn_X8_init ml_X11_9 rfl (Nat.le_of_ble_eq_true rfl) (Nat.le_of_ble_eq_true rfl) (Nat.le_of_ble_eq_true rfl) rfl (Nat.le_of_ble_eq_true rfl) E d_X11_init_9 (fun u2 => ?_)
  refine wc_putF0 (fs' := [.ref q1, .null, .null, .null, .null, .null, .null, .null, .null, .null]) fl_X11_10 fpf_11_0 hname rfl rfl (Nat.le_of_ble_eq_true rfl) rfl E d_X11_init_12 ?_
  refine wc_aload_n 0 rfl E d_X11_init_15 ?_
  refine wc_new0 (fs := [.int 0, .int 0, .int 0, .int 0, .int 0, .int 0, .null, .null, .null, .null, .null, .null, .null, .null, .null, .null, .null]) nw_X11_16 (Nat.le_of_ble_eq_true rfl) (Nat.le_of_ble_eq_true rfl) E d_X11_init_16 (fun q3 => ?_)
  refine wc_dup rfl E d_X11_init_19 ?_
  refine wc_callI0 (rest := [.ref q3, .ref h0]) (k_X10_init q3) mn_X10_init ml_X11_18 rfl (Nat.le_of_ble_eq_true rfl) (Nat.le_of_ble_eq_true rfl) (Nat.le_of_ble_eq_true rfl) rfl (Nat.le_of_ble_eq_true rfl) E d_X11_init_20 (fun u4 => ?_)
  refine wc_putF0 (fs' := [.ref q1, .ref q3, .null, .null, .null, .null, .null, .null, .null, .null]) fl_X11_19 fpf_11_1 hname rfl rfl (Nat.le_of_ble_eq_true rfl) rfl E d_X11_init_23 ?_
  refine wc_aload_n 0 rfl E d_X11_init_26 ?_
  refine wc_new0 (fs := [.int 0, .int 0, .int 0, .int 0, .int 0, .int 0, .null, .null, .null, .null, .null, .null, .null, .null, .null, .null, .null]) nw_X11_16 (Nat.le_of_ble_eq_true rfl) (Nat.le_of_ble_eq_true rfl) E d_X11_init_27 (fun q5 => ?_)
  refine wc_dup rfl E d_X11_init_30 ?_
  refine wc_callI0 (rest := [.ref q5, .ref h0]) (k_X10_init q5) mn_X10_init ml_X11_18 rfl (Nat.le_of_ble_eq_true rfl) (Nat.le_of_ble_eq_true rfl) (Nat.le_of_ble_eq_true rfl) rfl (Nat.le_of_ble_eq_true rfl) E d_X11_init_31 (fun u6 => ?_)
  refine wc_putF0 (fs' := [.ref q1, .ref q3, .ref q5, .null, .null, .null, .null, .null, .null, .null]) fl_X11_23 fpf_11_2 hname rfl rfl (Nat.le_of_ble_eq_true rfl) rfl E d_X11_init_34 ?_
  refine wc_aload_n 0 rfl E d_X11_init_37 ?_
  refine wc_new0 (fs := [.int 0, .int 0, .null, .null, .int 0, .int 0, .int 0, .int 0]) nw_X11_26 (Nat.le_of_ble_eq_true rfl) (Nat.le_of_ble_eq_true rfl) E d_X11_init_38 (fun q7 => ?_)
  refine wc_dup rfl E d_X11_init_41 ?_
  refine wc_aload_n 0 rfl E d_X11_init_42 ?_
  refine wc_getf0 fl_X11_10 rfl E d_X11_init_43 ?_
  refine wc_aload_n 0 rfl E d_X11_init_46 ?_
  refine wc_getf0 fl_X11_23 rfl E d_X11_init_47 ?_
  refine wc_callI0 (rest := [.ref q7, .ref h0]) (k_X6_init q7 q1 q5) mn_X6_init ml_X11_28 rfl (Nat.le_of_ble_eq_true rfl) (Nat.le_of_ble_eq_true rfl) (Nat.le_of_ble_eq_true rfl) rfl (Nat.le_of_ble_eq_true rfl) E d_X11_init_50 (fun u8 => ?_)
  refine wc_putF0 (fs' := [.ref q1, .ref q3, .ref q5, .ref q7, .null, .null, .null, .null, .null, .null]) fl_X11_31 fpf_11_3 hname rfl rfl (Nat.le_of_ble_eq_true rfl) rfl E d_X11_init_53 ?_
  refine wc_aload_n 0 rfl E d_X11_init_56 ?_
  refine wc_new0 (fs := [.null, .null, .int 0, .int 0, .null]) nw_X11_35 (Nat.le_of_ble_eq_true rfl) (Nat.le_of_ble_eq_true rfl) E d_X11_init_57 (fun q9 => ?_)
  refine wc_dup rfl E d_X11_init_60 ?_
  refine wc_callI0 (rest := [.ref q9, .ref h0]) (k_X7_init q9) mn_X7_init ml_X11_37 rfl (Nat.le_of_ble_eq_true rfl) (Nat.le_of_ble_eq_true rfl) (Nat.le_of_ble_eq_true rfl) rfl (Nat.le_of_ble_eq_true rfl) E d_X11_init_61 (fun u10 => ?_)
  refine wc_putF0 (fs' := [.ref q1, .ref q3, .ref q5, .ref q7, .ref q9, .null, .null, .null, .null, .null]) fl_X11_38 fpf_11_4 hname rfl rfl (Nat.le_of_ble_eq_true rfl) rfl E d_X11_init_64 ?_
  refine wc_aload_n 0 rfl E d_X11_init_67 ?_
  refine wc_new0 (fs := [.int 0, .int 0, .int 0, .null, .null]) nw_X11_42 (Nat.le_of_ble_eq_true rfl) (Nat.le_of_ble_eq_true rfl) E d_X11_init_68 (fun q11 => ?_)
  refine wc_dup rfl E d_X11_init_71 ?_
  refine wc_callI0 (rest := [.ref q11, .ref h0]) (k_X3_init q11) mn_X3_init ml_X11_44 rfl (Nat.le_of_ble_eq_true rfl) (Nat.le_of_ble_eq_true rfl) (Nat.le_of_ble_eq_true rfl) rfl (Nat.le_of_ble_eq_true rfl) E d_X11_init_72 (fun u12 => ?_)
  refine wc_putF0 (fs' := [.ref q1, .ref q3, .ref q5, .ref q7, .ref q9, .ref q11, .null, .null, .null, .null]) fl_X11_45 fpf_11_5 hname rfl rfl (Nat.le_of_ble_eq_true rfl) rfl E d_X11_init_75 ?_
  refine wc_aload_n 0 rfl E d_X11_init_78 ?_
  refine wc_new0 (fs := [.null, .null, .null]) nw_X11_49 (Nat.le_of_ble_eq_true rfl) (Nat.le_of_ble_eq_true rfl) E d_X11_init_79 (fun q13 => ?_)
  refine wc_dup rfl E d_X11_init_82 ?_
  refine wc_aload_n 0 rfl E d_X11_init_83 ?_
  refine wc_getf0 fl_X11_19 rfl E d_X11_init_84 ?_
  refine wc_callI0 (rest := [.ref q13, .ref h0]) (k_X4_init q13 q3) mn_X4_init ml_X11_51 rfl (Nat.le_of_ble_eq_true rfl) (Nat.le_of_ble_eq_true rfl) (Nat.le_of_ble_eq_true rfl) rfl (Nat.le_of_ble_eq_true rfl) E d_X11_init_87 (fun u14 => ?_)
  refine wc_putF0 (fs' := [.ref q1, .ref q3, .ref q5, .ref q7, .ref q9, .ref q11, .ref q13, .null, .null, .null]) fl_X11_54 fpf_11_6 hname rfl rfl (Nat.le_of_ble_eq_true rfl) rfl E d_X11_init_90 ?_
  refine wc_aload_n 0 rfl E d_X11_init_93 ?_
  refine wc_new0 (fs := [.null, .null, .null, .null, .null]) nw_X11_58 (Nat.le_of_ble_eq_true rfl) (Nat.le_of_ble_eq_true rfl) E d_X11_init_94 (fun q15 => ?_)
  refine wc_dup rfl E d_X11_init_97 ?_
  refine wc_aload_n 0 rfl E d_X11_init_98 ?_
  refine wc_getf0 fl_X11_19 rfl E d_X11_init_99 ?_
  refine wc_aload_n 0 rfl E d_X11_init_102 ?_
  refine wc_getf0 fl_X11_38 rfl E d_X11_init_103 ?_
  refine wc_aload_n 0 rfl E d_X11_init_106 ?_
  refine wc_getf0 fl_X11_54 rfl E d_X11_init_107 ?_
  refine wc_callI0 (rest := [.ref q15, .ref h0]) (k_X0_init q15 q3 q9 q13) mn_X0_init ml_X11_60 rfl (Nat.le_of_ble_eq_true rfl) (Nat.le_of_ble_eq_true rfl) (Nat.le_of_ble_eq_true rfl) rfl (Nat.le_of_ble_eq_true rfl) E d_X11_init_110 (fun u16 => ?_)
  refine wc_putF0 (fs' := [.ref q1, .ref q3, .ref q5, .ref q7, .ref q9, .ref q11, .ref q13, .ref q15, .null, .null]) fl_X11_63 fpf_11_7 hname rfl rfl (Nat.le_of_ble_eq_true rfl) rfl E d_X11_init_113 ?_
  refine wc_aload_n 0 rfl E d_X11_init_116 ?_
  refine wc_new0 (fs := [.null, .null, .null]) nw_X11_67 (Nat.le_of_ble_eq_true rfl) (Nat.le_of_ble_eq_true rfl) E d_X11_init_117 (fun q17 => ?_)
  refine wc_dup rfl E d_X11_init_120 ?_
  refine wc_aload_n 0 rfl E d_X11_init_121 ?_
  refine wc_getf0 fl_X11_19 rfl E d_X11_init_122 ?_
  refine wc_aload_n 0 rfl E d_X11_init_125 ?_
  refine wc_getf0 fl_X11_38 rfl E d_X11_init_126 ?_
  refine wc_callI0 (rest := [.ref q17, .ref h0]) (k_X5_init q17 q3 q9) mn_X5_init ml_X11_69 rfl (Nat.le_of_ble_eq_true rfl) (Nat.le_of_ble_eq_true rfl) (Nat.le_of_ble_eq_true rfl) rfl (Nat.le_of_ble_eq_true rfl) E d_X11_init_129 (fun u18 => ?_)
  refine wc_putF0 (fs' := [.ref q1, .ref q3, .ref q5, .ref q7, .ref q9, .ref q11, .ref q13, .ref q15, .ref q17, .null]) fl_X11_72 fpf_11_8 hname rfl rfl (Nat.le_of_ble_eq_true rfl) rfl E d_X11_init_132 ?_
  refine wc_aload_n 0 rfl E d_X11_init_135 ?_
  refine wc_new0 (fs := [.int 0, .null, .null, .null, .null, .null, .null, .null]) nw_X11_76 (Nat.le_of_ble_eq_true rfl) (Nat.le_of_ble_eq_true rfl) E d_X11_init_136 (fun q19 => ?_)
  refine wc_dup rfl E d_X11_init_139 ?_
  refine wc_aload_n 0 rfl E d_X11_init_140 ?_
  refine wc_getf0 fl_X11_19 rfl E d_X11_init_141 ?_
  refine wc_aload_n 0 rfl E d_X11_init_144 ?_
  refine wc_getf0 fl_X11_38 rfl E d_X11_init_145 ?_
  refine wc_aload_n 0 rfl E d_X11_init_148 ?_
  refine wc_getf0 fl_X11_54 rfl E d_X11_init_149 ?_
  refine wc_callI0 (rest := [.ref q19, .ref h0]) (k_X9_init q19 q3 q9 q13) mn_X9_init ml_X11_78 rfl (Nat.le_of_ble_eq_true rfl) (Nat.le_of_ble_eq_true rfl) (Nat.le_of_ble_eq_true rfl) rfl (Nat.le_of_ble_eq_true rfl) E d_X11_init_152 (fun u20 => ?_)
  refine wc_putF0 (fs' := [.ref q1, .ref q3, .ref q5, .ref q7, .ref q9, .ref q11, .ref q13, .ref q15, .ref q17, .ref q19]) fl_X11_79 fpf_11_9 hname rfl rfl (Nat.le_of_ble_eq_true rfl) rfl E d_X11_init_155 ?_
  exact kc_vret (fun i => [q1, (u2 0), (u2 1), (u2 2), (u2 3), (u2 4), q3, (u4 0), (u4 1), (u4 2), (u4 3), (u4 4), (u4 5), (u4 6), (u4 7), (u4 8), (u4 9), (u4 10), (u4 11), (u4 12), (u4 13), (u4 14), (u4 15), (u4 16), q5, (u6 0), (u6 1), (u6 2), (u6 3), (u6 4), (u6 5), (u6 6), (u6 7), (u6 8), (u6 9), (u6 10), (u6 11), (u6 12), (u6 13), (u6 14), (u6 15), (u6 16), q7, q9, (u10 0), (u10 1), (u10 2), (u10 3), (u10 4), (u10 5), (u10 6), (u10 7), (u10 8), (u10 9), (u10 10), (u10 11), (u10 12), (u10 13), (u10 14), q11, (u12 0), (u12 1), q13, (u14 0), (u14 1), q15, (u16 0), (u16 1), (u16 2), q17, (u18 0), q19, (u20 0), (u20 1), (u20 2), (u20 3)].getD i 0) rfl rfl E d_X11_init_158
