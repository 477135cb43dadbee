theorem bp_101 : (Int8.ofInt 101).toInt32 = 101 := by decide
theorem bp_102 : (Int8.ofInt 102).toInt32 = 102 := by decide
theorem bp_103 : (Int8.ofInt 103).toInt32 = 103 := by decide
theorem bp_104 : (Int8.ofInt 104).toInt32 = 104 := by decide
theorem bp_105 : (Int8.ofInt 105).toInt32 = 105 := by decide
theorem bp_107 : (Int8.ofInt 107).toInt32 = 107 := by decide
theorem bp_108 : (Int8.ofInt 108).toInt32 = 108 := by decide
theorem bp_11 : (Int8.ofInt 11).toInt32 = 11 := by decide
theorem bp_110 : (Int8.ofInt 110).toInt32 = 110 := by decide
theorem bp_111 : (Int8.ofInt 111).toInt32 = 111 := by decide
theorem bp_112 : (Int8.ofInt 112).toInt32 = 112 := by decide
theorem bp_114 : (Int8.ofInt 114).toInt32 = 114 := by decide
theorem bp_115 : (Int8.ofInt 115).toInt32 = 115 := by decide
theorem bp_116 : (Int8.ofInt 116).toInt32 = 116 := by decide
theorem bp_117 : (Int8.ofInt 117).toInt32 = 117 := by decide
theorem bp_118 : (Int8.ofInt 118).toInt32 = 118 := by decide
theorem bp_119 : (Int8.ofInt 119).toInt32 = 119 := by decide
theorem bp_12 : (Int8.ofInt 12).toInt32 = 12 := by decide
theorem bp_121 : (Int8.ofInt 121).toInt32 = 121 := by decide
theorem bp_17 : (Int8.ofInt 17).toInt32 = 17 := by decide
theorem bp_18 : (Int8.ofInt 18).toInt32 = 18 := by decide
theorem bp_19 : (Int8.ofInt 19).toInt32 = 19 := by decide
theorem bp_98 : (Int8.ofInt 98).toInt32 = 98 := by decide
theorem fl_X10_15 : kf_FL RX10 15 10 7 := ⟨RX10, TX10, 17, rfl, by decide, rfl, by decide, in_10, kf_ly1 188 (by decide +kernel) rfl⟩
theorem fl_X10_9 : kf_FL RX10 9 10 6 := ⟨RX10, TX10, 17, rfl, by decide, rfl, by decide, in_10, kf_ly1 186 (by decide +kernel) rfl⟩
theorem mi_X12_word : kf_mi yX12_word cX12_word 7 (some .long) 7 := ⟨kf_ly5 232 (by decide +kernel) rfl, kf_ly1 17 (by decide +kernel) rfl, ⟨by decide +kernel, by decide +kernel, by decide +kernel⟩, by decide⟩
theorem mt_X12_word : kf_mt yX12_word cX12_word 7 (some .long) 7 := ⟨mi_X12_word, kf_ly5 231 (by decide +kernel) rfl⟩
theorem ml_X10_39 : Cond.methodLink RX10 39 yX2_init ∈ kf_T := kf_ly1 133 (by decide +kernel) rfl
theorem ml_X10_50 : Cond.methodLink RX10 50 yX10_clear ∈ kf_T := kf_ly1 148 (by decide +kernel) rfl
theorem ml_X11_18 : Cond.methodLink RX11 18 yX10_init ∈ kf_T := kf_ly1 127 (by decide +kernel) rfl
theorem ml_X11_28 : Cond.methodLink RX11 28 yX6_init ∈ kf_T := kf_ly2 21 (by decide +kernel) rfl
theorem ml_X11_37 : Cond.methodLink RX11 37 yX7_init ∈ kf_T := kf_ly2 54 (by decide +kernel) rfl
theorem ml_X11_44 : Cond.methodLink RX11 44 yX3_init ∈ kf_T := kf_ly2 128 (by decide +kernel) rfl
theorem ml_X11_51 : Cond.methodLink RX11 51 yX4_init ∈ kf_T := kf_ly2 152 (by decide +kernel) rfl
theorem ml_X11_60 : Cond.methodLink RX11 60 yX0_init ∈ kf_T := kf_ly2 168 (by decide +kernel) rfl
theorem ml_X11_69 : Cond.methodLink RX11 69 yX5_init ∈ kf_T := kf_ly2 192 (by decide +kernel) rfl
theorem ml_X11_78 : Cond.methodLink RX11 78 yX9_init ∈ kf_T := kf_ly2 208 (by decide +kernel) rfl
theorem ml_X11_9 : Cond.methodLink RX11 9 yX8_init ∈ kf_T := kf_ly1 32 (by decide +kernel) rfl
theorem ml_X12_156 : Cond.methodLink RX12 156 yX12_word ∈ kf_T := kf_ly5 230 (by decide +kernel) rfl
theorem sp_210 : (Int16.ofInt 210).toInt32 = 210 := by decide
theorem sp_260 : (Int16.ofInt 260).toInt32 = 260 := by decide
theorem sp_2800 : (Int16.ofInt 2800).toInt32 = 2800 := by decide
theorem sp_403 : (Int16.ofInt 403).toInt32 = 403 := by decide
theorem sp_840 : (Int16.ofInt 840).toInt32 = 840 := by decide
theorem fpf_10_10 : kc_FPF 10 10 RX10 (.array .int) := ⟨RX10, TX10, 17, tyX10, rfl, tyX10_ok, nmX10, rfl, rfl, by decide +kernel⟩
theorem fpf_10_11 : kc_FPF 10 11 RX10 (.array .int) := ⟨RX10, TX10, 17, tyX10, rfl, tyX10_ok, nmX10, rfl, rfl, by decide +kernel⟩
theorem fpf_10_12 : kc_FPF 10 12 RX10 (.array .int) := ⟨RX10, TX10, 17, tyX10, rfl, tyX10_ok, nmX10, rfl, rfl, by decide +kernel⟩
theorem fpf_10_13 : kc_FPF 10 13 RX10 (.array .int) := ⟨RX10, TX10, 17, tyX10, rfl, tyX10_ok, nmX10, rfl, rfl, by decide +kernel⟩
theorem fpf_10_14 : kc_FPF 10 14 RX10 (.object "KnockerFaces$Law") := ⟨RX10, TX10, 17, tyX10, rfl, tyX10_ok, nmX10, rfl, rfl, by decide +kernel⟩
theorem fpf_10_15 : kc_FPF 10 15 RX10 (.object "KnockerFaces$Law") := ⟨RX10, TX10, 17, tyX10, rfl, tyX10_ok, nmX10, rfl, rfl, by decide +kernel⟩
theorem fpf_10_16 : kc_FPF 10 16 RX10 (.object "KnockerFaces$Law") := ⟨RX10, TX10, 17, tyX10, rfl, tyX10_ok, nmX10, rfl, rfl, by decide +kernel⟩
theorem fpf_10_6 : kc_FPF 10 6 RX10 (.array .long) := ⟨RX10, TX10, 17, tyX10, rfl, tyX10_ok, nmX10, rfl, rfl, by decide +kernel⟩
theorem fpf_10_7 : kc_FPF 10 7 RX10 (.array .long) := ⟨RX10, TX10, 17, tyX10, rfl, tyX10_ok, nmX10, rfl, rfl, by decide +kernel⟩
theorem fpf_10_8 : kc_FPF 10 8 RX10 (.array .int) := ⟨RX10, TX10, 17, tyX10, rfl, tyX10_ok, nmX10, rfl, rfl, by decide +kernel⟩
theorem fpf_10_9 : kc_FPF 10 9 RX10 (.array .int) := ⟨RX10, TX10, 17, tyX10, rfl, tyX10_ok, nmX10, rfl, rfl, by decide +kernel⟩
theorem fpf_11_0 : kc_FPF 11 0 RX11 (.object "KnockerFaces$Tape") := ⟨RX11, TX11, 10, tyX11, rfl, tyX11_ok, nmX11, rfl, rfl, by decide +kernel⟩
theorem fpf_11_1 : kc_FPF 11 1 RX11 (.object "KnockerFaces$Town") := ⟨RX11, TX11, 10, tyX11, rfl, tyX11_ok, nmX11, rfl, rfl, by decide +kernel⟩
theorem fpf_11_2 : kc_FPF 11 2 RX11 (.object "KnockerFaces$Town") := ⟨RX11, TX11, 10, tyX11, rfl, tyX11_ok, nmX11, rfl, rfl, by decide +kernel⟩
theorem fpf_11_3 : kc_FPF 11 3 RX11 (.object "KnockerFaces$Reader") := ⟨RX11, TX11, 10, tyX11, rfl, tyX11_ok, nmX11, rfl, rfl, by decide +kernel⟩
theorem fpf_11_4 : kc_FPF 11 4 RX11 (.object "KnockerFaces$Street") := ⟨RX11, TX11, 10, tyX11, rfl, tyX11_ok, nmX11, rfl, rfl, by decide +kernel⟩
theorem fpf_11_5 : kc_FPF 11 5 RX11 (.object "KnockerFaces$Memory") := ⟨RX11, TX11, 10, tyX11, rfl, tyX11_ok, nmX11, rfl, rfl, by decide +kernel⟩
theorem fpf_11_6 : kc_FPF 11 6 RX11 (.object "KnockerFaces$Mover") := ⟨RX11, TX11, 10, tyX11, rfl, tyX11_ok, nmX11, rfl, rfl, by decide +kernel⟩
theorem fpf_11_7 : kc_FPF 11 7 RX11 (.object "KnockerFaces$Ahead") := ⟨RX11, TX11, 10, tyX11, rfl, tyX11_ok, nmX11, rfl, rfl, by decide +kernel⟩
theorem fpf_11_8 : kc_FPF 11 8 RX11 (.object "KnockerFaces$Pairs") := ⟨RX11, TX11, 10, tyX11, rfl, tyX11_ok, nmX11, rfl, rfl, by decide +kernel⟩
theorem fpf_11_9 : kc_FPF 11 9 RX11 (.object "KnockerFaces$Told") := ⟨RX11, TX11, 10, tyX11, rfl, tyX11_ok, nmX11, rfl, rfl, by decide +kernel⟩
theorem fpf_12_1 : kc_FPF 12 1 RX12 (.array .byte) := ⟨RX12, TX12, 66, tyX12, rfl, tyX12_ok, nmX12, rfl, rfl, by decide +kernel⟩
theorem fpf_12_21 : kc_FPF 12 21 RX12 (.array .long) := ⟨RX12, TX12, 66, tyX12, rfl, tyX12_ok, nmX12, rfl, rfl, by decide +kernel⟩
theorem fpf_12_22 : kc_FPF 12 22 RX12 (.array .int) := ⟨RX12, TX12, 66, tyX12, rfl, tyX12_ok, nmX12, rfl, rfl, by decide +kernel⟩
theorem fpf_12_23 : kc_FPF 12 23 RX12 (.array .int) := ⟨RX12, TX12, 66, tyX12, rfl, tyX12_ok, nmX12, rfl, rfl, by decide +kernel⟩
theorem fpf_12_24 : kc_FPF 12 24 RX12 (.array .int) := ⟨RX12, TX12, 66, tyX12, rfl, tyX12_ok, nmX12, rfl, rfl, by decide +kernel⟩
theorem fpf_12_25 : kc_FPF 12 25 RX12 (.array .int) := ⟨RX12, TX12, 66, tyX12, rfl, tyX12_ok, nmX12, rfl, rfl, by decide +kernel⟩
theorem fpf_12_26 : kc_FPF 12 26 RX12 (.array .int) := ⟨RX12, TX12, 66, tyX12, rfl, tyX12_ok, nmX12, rfl, rfl, by decide +kernel⟩
theorem fpf_12_27 : kc_FPF 12 27 RX12 (.array .int) := ⟨RX12, TX12, 66, tyX12, rfl, tyX12_ok, nmX12, rfl, rfl, by decide +kernel⟩
theorem fpf_12_28 : kc_FPF 12 28 RX12 (.array .int) := ⟨RX12, TX12, 66, tyX12, rfl, tyX12_ok, nmX12, rfl, rfl, by decide +kernel⟩
theorem fpf_12_29 : kc_FPF 12 29 RX12 (.array .int) := ⟨RX12, TX12, 66, tyX12, rfl, tyX12_ok, nmX12, rfl, rfl, by decide +kernel⟩
theorem fpf_12_3 : kc_FPF 12 3 RX12 (.array .byte) := ⟨RX12, TX12, 66, tyX12, rfl, tyX12_ok, nmX12, rfl, rfl, by decide +kernel⟩
theorem fpf_12_30 : kc_FPF 12 30 RX12 (.array .int) := ⟨RX12, TX12, 66, tyX12, rfl, tyX12_ok, nmX12, rfl, rfl, by decide +kernel⟩
theorem fpf_12_31 : kc_FPF 12 31 RX12 (.array .int) := ⟨RX12, TX12, 66, tyX12, rfl, tyX12_ok, nmX12, rfl, rfl, by decide +kernel⟩
theorem fpf_12_32 : kc_FPF 12 32 RX12 (.array .int) := ⟨RX12, TX12, 66, tyX12, rfl, tyX12_ok, nmX12, rfl, rfl, by decide +kernel⟩
theorem fpf_12_33 : kc_FPF 12 33 RX12 (.array .int) := ⟨RX12, TX12, 66, tyX12, rfl, tyX12_ok, nmX12, rfl, rfl, by decide +kernel⟩
theorem fpf_12_34 : kc_FPF 12 34 RX12 (.array .int) := ⟨RX12, TX12, 66, tyX12, rfl, tyX12_ok, nmX12, rfl, rfl, by decide +kernel⟩
theorem fpf_12_35 : kc_FPF 12 35 RX12 (.array .int) := ⟨RX12, TX12, 66, tyX12, rfl, tyX12_ok, nmX12, rfl, rfl, by decide +kernel⟩
theorem fpf_12_36 : kc_FPF 12 36 RX12 (.array .int) := ⟨RX12, TX12, 66, tyX12, rfl, tyX12_ok, nmX12, rfl, rfl, by decide +kernel⟩
theorem fpf_12_38 : kc_FPF 12 38 RX12 (.array .boolean) := ⟨RX12, TX12, 66, tyX12, rfl, tyX12_ok, nmX12, rfl, rfl, by decide +kernel⟩
theorem fpf_12_39 : kc_FPF 12 39 RX12 (.array .int) := ⟨RX12, TX12, 66, tyX12, rfl, tyX12_ok, nmX12, rfl, rfl, by decide +kernel⟩
theorem fpf_12_40 : kc_FPF 12 40 RX12 (.array .int) := ⟨RX12, TX12, 66, tyX12, rfl, tyX12_ok, nmX12, rfl, rfl, by decide +kernel⟩
theorem fpf_12_41 : kc_FPF 12 41 RX12 (.array .int) := ⟨RX12, TX12, 66, tyX12, rfl, tyX12_ok, nmX12, rfl, rfl, by decide +kernel⟩
theorem fpf_12_42 : kc_FPF 12 42 RX12 (.array .int) := ⟨RX12, TX12, 66, tyX12, rfl, tyX12_ok, nmX12, rfl, rfl, by decide +kernel⟩
theorem fpf_12_44 : kc_FPF 12 44 RX12 (.array .int) := ⟨RX12, TX12, 66, tyX12, rfl, tyX12_ok, nmX12, rfl, rfl, by decide +kernel⟩
theorem fpf_12_45 : kc_FPF 12 45 RX12 (.array .int) := ⟨RX12, TX12, 66, tyX12, rfl, tyX12_ok, nmX12, rfl, rfl, by decide +kernel⟩
theorem fpf_12_46 : kc_FPF 12 46 RX12 (.array .int) := ⟨RX12, TX12, 66, tyX12, rfl, tyX12_ok, nmX12, rfl, rfl, by decide +kernel⟩
theorem fpf_12_48 : kc_FPF 12 48 RX12 (.array .int) := ⟨RX12, TX12, 66, tyX12, rfl, tyX12_ok, nmX12, rfl, rfl, by decide +kernel⟩
theorem fpf_12_49 : kc_FPF 12 49 RX12 (.array .int) := ⟨RX12, TX12, 66, tyX12, rfl, tyX12_ok, nmX12, rfl, rfl, by decide +kernel⟩
theorem fpf_12_5 : kc_FPF 12 5 RX12 (.array .int) := ⟨RX12, TX12, 66, tyX12, rfl, tyX12_ok, nmX12, rfl, rfl, by decide +kernel⟩
theorem fpf_12_51 : kc_FPF 12 51 RX12 (.array .int) := ⟨RX12, TX12, 66, tyX12, rfl, tyX12_ok, nmX12, rfl, rfl, by decide +kernel⟩
theorem fpf_12_52 : kc_FPF 12 52 RX12 (.array .int) := ⟨RX12, TX12, 66, tyX12, rfl, tyX12_ok, nmX12, rfl, rfl, by decide +kernel⟩
theorem fpf_12_55 : kc_FPF 12 55 RX12 (.array .int) := ⟨RX12, TX12, 66, tyX12, rfl, tyX12_ok, nmX12, rfl, rfl, by decide +kernel⟩
theorem fpf_12_57 : kc_FPF 12 57 RX12 (.array .int) := ⟨RX12, TX12, 66, tyX12, rfl, tyX12_ok, nmX12, rfl, rfl, by decide +kernel⟩
theorem fpf_12_58 : kc_FPF 12 58 RX12 (.array .int) := ⟨RX12, TX12, 66, tyX12, rfl, tyX12_ok, nmX12, rfl, rfl, by decide +kernel⟩
theorem fpf_12_59 : kc_FPF 12 59 RX12 (.array .int) := ⟨RX12, TX12, 66, tyX12, rfl, tyX12_ok, nmX12, rfl, rfl, by decide +kernel⟩
theorem fpf_12_6 : kc_FPF 12 6 RX12 (.array .int) := ⟨RX12, TX12, 66, tyX12, rfl, tyX12_ok, nmX12, rfl, rfl, by decide +kernel⟩
theorem fpf_12_61 : kc_FPF 12 61 RX12 (.array .int) := ⟨RX12, TX12, 66, tyX12, rfl, tyX12_ok, nmX12, rfl, rfl, by decide +kernel⟩
theorem fpf_12_62 : kc_FPF 12 62 RX12 (.array .int) := ⟨RX12, TX12, 66, tyX12, rfl, tyX12_ok, nmX12, rfl, rfl, by decide +kernel⟩
theorem fpf_12_63 : kc_FPF 12 63 RX12 (.array .int) := ⟨RX12, TX12, 66, tyX12, rfl, tyX12_ok, nmX12, rfl, rfl, by decide +kernel⟩
theorem fpf_12_64 : kc_FPF 12 64 RX12 (.array .boolean) := ⟨RX12, TX12, 66, tyX12, rfl, tyX12_ok, nmX12, rfl, rfl, by decide +kernel⟩
theorem fpf_12_65 : kc_FPF 12 65 RX12 (.array .int) := ⟨RX12, TX12, 66, tyX12, rfl, tyX12_ok, nmX12, rfl, rfl, by decide +kernel⟩
theorem fpf_12_7 : kc_FPF 12 7 RX12 (.array .int) := ⟨RX12, TX12, 66, tyX12, rfl, tyX12_ok, nmX12, rfl, rfl, by decide +kernel⟩
theorem fpf_12_8 : kc_FPF 12 8 RX12 (.array .long) := ⟨RX12, TX12, 66, tyX12, rfl, tyX12_ok, nmX12, rfl, rfl, by decide +kernel⟩
theorem fpf_12_9 : kc_FPF 12 9 RX12 (.array .long) := ⟨RX12, TX12, 66, tyX12, rfl, tyX12_ok, nmX12, rfl, rfl, by decide +kernel⟩
theorem mn_X0_init : kc_mn yX0_init cX0_init 4 3 := ⟨⟨kf_ly2 170 (by decide +kernel) rfl, kf_ly1 14 (by decide +kernel) rfl, ⟨by decide +kernel, by decide +kernel, by decide +kernel⟩, by decide⟩, kf_ly2 169 (by decide +kernel) rfl, rfl⟩
theorem mn_X10_init : kc_mn yX10_init cX10_init 1 0 := ⟨⟨kf_ly1 129 (by decide +kernel) rfl, kf_ly1 7 (by decide +kernel) rfl, ⟨by decide +kernel, by decide +kernel, by decide +kernel⟩, by decide⟩, kf_ly1 128 (by decide +kernel) rfl, rfl⟩
theorem mn_X2_init : kc_mn yX2_init cX2_init 1 0 := ⟨⟨kf_ly1 135 (by decide +kernel) rfl, kf_ly1 8 (by decide +kernel) rfl, ⟨by decide +kernel, by decide +kernel, by decide +kernel⟩, by decide⟩, kf_ly1 134 (by decide +kernel) rfl, rfl⟩
theorem mn_X3_init : kc_mn yX3_init cX3_init 1 0 := ⟨⟨kf_ly2 130 (by decide +kernel) rfl, kf_ly1 12 (by decide +kernel) rfl, ⟨by decide +kernel, by decide +kernel, by decide +kernel⟩, by decide⟩, kf_ly2 129 (by decide +kernel) rfl, rfl⟩
theorem mn_X4_init : kc_mn yX4_init cX4_init 2 1 := ⟨⟨kf_ly2 154 (by decide +kernel) rfl, kf_ly1 13 (by decide +kernel) rfl, ⟨by decide +kernel, by decide +kernel, by decide +kernel⟩, by decide⟩, kf_ly2 153 (by decide +kernel) rfl, rfl⟩
theorem mn_X5_init : kc_mn yX5_init cX5_init 3 2 := ⟨⟨kf_ly2 194 (by decide +kernel) rfl, kf_ly1 15 (by decide +kernel) rfl, ⟨by decide +kernel, by decide +kernel, by decide +kernel⟩, by decide⟩, kf_ly2 193 (by decide +kernel) rfl, rfl⟩
theorem mn_X6_init : kc_mn yX6_init cX6_init 3 2 := ⟨⟨kf_ly2 23 (by decide +kernel) rfl, kf_ly1 9 (by decide +kernel) rfl, ⟨by decide +kernel, by decide +kernel, by decide +kernel⟩, by decide⟩, kf_ly2 22 (by decide +kernel) rfl, rfl⟩
theorem mn_X7_init : kc_mn yX7_init cX7_init 2 0 := ⟨⟨kf_ly2 56 (by decide +kernel) rfl, kf_ly1 10 (by decide +kernel) rfl, ⟨by decide +kernel, by decide +kernel, by decide +kernel⟩, by decide⟩, kf_ly2 55 (by decide +kernel) rfl, rfl⟩
theorem mn_X8_init : kc_mn yX8_init cX8_init 1 0 := ⟨⟨kf_ly1 34 (by decide +kernel) rfl, kf_ly1 2 (by decide +kernel) rfl, ⟨by decide +kernel, by decide +kernel, by decide +kernel⟩, by decide⟩, kf_ly1 33 (by decide +kernel) rfl, rfl⟩
theorem mn_X9_init : kc_mn yX9_init cX9_init 4 3 := ⟨⟨kf_ly2 210 (by decide +kernel) rfl, kf_ly1 16 (by decide +kernel) rfl, ⟨by decide +kernel, by decide +kernel, by decide +kernel⟩, by decide⟩, kf_ly2 209 (by decide +kernel) rfl, rfl⟩
theorem nw_X10_37 : kc_NW RX10 37 2 3 [.int 0, .null, .null] := ⟨RX2, TX2, tyX2, rfl, in_2, tyX2_ok, kf_ly1 131 (by decide +kernel) rfl, kf_ly1 132 (by decide +kernel) rfl, kf_ly1 8 (by decide +kernel) rfl, by decide +kernel⟩
theorem nw_X11_16 : kc_NW RX11 16 10 17 [.int 0, .int 0, .int 0, .int 0, .int 0, .int 0, .null, .null, .null, .null, .null, .null, .null, .null, .null, .null, .null] := ⟨RX10, TX10, tyX10, rfl, in_10, tyX10_ok, kf_ly1 125 (by decide +kernel) rfl, kf_ly1 126 (by decide +kernel) rfl, kf_ly1 7 (by decide +kernel) rfl, by decide +kernel⟩
theorem nw_X11_26 : kc_NW RX11 26 6 8 [.int 0, .int 0, .null, .null, .int 0, .int 0, .int 0, .int 0] := ⟨RX6, TX6, tyX6, rfl, in_6, tyX6_ok, kf_ly2 19 (by decide +kernel) rfl, kf_ly2 20 (by decide +kernel) rfl, kf_ly1 9 (by decide +kernel) rfl, by decide +kernel⟩
theorem nw_X11_35 : kc_NW RX11 35 7 5 [.null, .null, .int 0, .int 0, .null] := ⟨RX7, TX7, tyX7, rfl, in_7, tyX7_ok, kf_ly2 52 (by decide +kernel) rfl, kf_ly2 53 (by decide +kernel) rfl, kf_ly1 10 (by decide +kernel) rfl, by decide +kernel⟩
theorem nw_X11_42 : kc_NW RX11 42 3 5 [.int 0, .int 0, .int 0, .null, .null] := ⟨RX3, TX3, tyX3, rfl, in_3, tyX3_ok, kf_ly2 126 (by decide +kernel) rfl, kf_ly2 127 (by decide +kernel) rfl, kf_ly1 12 (by decide +kernel) rfl, by decide +kernel⟩
theorem nw_X11_49 : kc_NW RX11 49 4 3 [.null, .null, .null] := ⟨RX4, TX4, tyX4, rfl, in_4, tyX4_ok, kf_ly2 150 (by decide +kernel) rfl, kf_ly2 151 (by decide +kernel) rfl, kf_ly1 13 (by decide +kernel) rfl, by decide +kernel⟩
theorem nw_X11_58 : kc_NW RX11 58 0 5 [.null, .null, .null, .null, .null] := ⟨RX0, TX0, tyX0, rfl, in_0, tyX0_ok, kf_ly2 166 (by decide +kernel) rfl, kf_ly2 167 (by decide +kernel) rfl, kf_ly1 14 (by decide +kernel) rfl, by decide +kernel⟩
theorem nw_X11_67 : kc_NW RX11 67 5 3 [.null, .null, .null] := ⟨RX5, TX5, tyX5, rfl, in_5, tyX5_ok, kf_ly2 190 (by decide +kernel) rfl, kf_ly2 191 (by decide +kernel) rfl, kf_ly1 15 (by decide +kernel) rfl, by decide +kernel⟩
theorem nw_X11_7 : kc_NW RX11 7 8 9 [.int 0, .null, .null, .null, .null, .null, .int 0, .int 0, .long 0] := ⟨RX8, TX8, tyX8, rfl, in_8, tyX8_ok, kf_ly1 30 (by decide +kernel) rfl, kf_ly1 31 (by decide +kernel) rfl, kf_ly1 2 (by decide +kernel) rfl, by decide +kernel⟩
theorem nw_X11_76 : kc_NW RX11 76 9 8 [.int 0, .null, .null, .null, .null, .null, .null, .null] := ⟨RX9, TX9, tyX9, rfl, in_9, tyX9_ok, kf_ly2 206 (by decide +kernel) rfl, kf_ly2 207 (by decide +kernel) rfl, kf_ly1 16 (by decide +kernel) rfl, by decide +kernel⟩
theorem oml_X10_3 : Cond.methodLink RX10 3 Lib.objectInit ∈ kf_T := kf_ly1 130 (by decide +kernel) rfl
theorem oml_X11_1 : Cond.methodLink RX11 1 Lib.objectInit ∈ kf_T := kf_ly1 27 (by decide +kernel) rfl
theorem oml_X12_7 : Cond.methodLink RX12 7 Lib.objectInit ∈ kf_T := kf_ly5 225 (by decide +kernel) rfl
/-! kinds along references, by the list of kinds alone -/
def kf_wtl (kl : List Nat) : Bool := (List.range kl.length).all (fun k =>
  let c := kl.getD k 0
  if c = 54 then (List.range (kf_ln k)).all (fun j => kl.getD (kf_rf k j) 0 == 2)
  else if c = 0 || 40 < c then true else (List.range (kf_rt (c - 1)).length).all (fun j => (kf_rt (c - 1)).getD j 0 == 0 || kl.getD (kf_rf k j) 0 == (kf_rt (c - 1)).getD j 0))
theorem kf_wt_of {G : kf_G} (h : kf_wtl G.2.2.2.2.1 = true) (hi : kf_inj G) : kf_wt G := by
  have key : ∀ k, kf_kd G k ≠ 0 → (if kf_kd G k = 54 then (List.range (kf_ln k)).all (fun j => kf_kd G (kf_rf k j) == 2)
      else if kf_kd G k = 0 || 40 < kf_kd G k then true else (List.range (kf_rt (kf_kd G k - 1)).length).all (fun j => (kf_rt (kf_kd G k - 1)).getD j 0 == 0 || kf_kd G (kf_rf k j) == (kf_rt (kf_kd G k - 1)).getD j 0)) = true := by
    intro k hk
    exact List.all_eq_true.mp h k (List.mem_range.mpr (kf_kd_lt hk))
  refine ⟨hi, fun k c j t hk hc ht => ?_, fun k j hk hj => ?_⟩
  · have h1 := key k (by omega)
    rw [if_neg (by omega), if_neg (by simp; omega), hk] at h1
    have hj := (List.getElem?_eq_some_iff.mp ht).1
    have h2 := List.all_eq_true.mp h1 j (List.mem_range.mpr hj)
    have e : (kf_rt c).getD j 0 = t + 1 := by rw [List.getD_eq_getElem?_getD, ht]; rfl
    simp only [Nat.add_sub_cancel] at h2
    rw [e] at h2
    simpa using h2
  · have h1 := key k (by omega)
    rw [if_pos hk] at h1
    have h2 := List.all_eq_true.mp h1 j (List.mem_range.mpr hj)
    simpa using h2
def kf_klT : List Nat := [0, 0, 0, 0, 0, 0, 0, 11, 51, 51, 50, 50, 50, 50, 50, 50, 3, 50, 50, 3, 50, 50, 3, 50, 50]
def kc_GT (G : kf_G) (as : List Nat) : kf_G := (G.1, G.2.1, G.2.2.1, fun k => as.getD (k - 7) 0, kf_klT, G.2.2.2.2.2.1, G.2.2.2.2.2.2)
set_option maxRecDepth 100000 in
theorem kf_klT_ok : kf_wtl kf_klT = true := by decide +kernel
def kf_sT : kf_St := (f_X10_clear 7 kf_zero).getD kf_zero
set_option maxRecDepth 100000 in
theorem kf_sT_ok : f_X10_clear 7 kf_zero = some kf_sT := kf_some _ (by decide +kernel)
def kf_klM : List Nat := [0, 0, 0, 0, 0, 0, 0, 0, 0, 0, 0, 0, 0, 0, 0, 0, 0, 0, 0, 0, 0, 0, 0, 0, 0, 0, 0, 0, 0, 0, 0, 0, 0, 0, 0, 0, 0, 0, 0, 0, 0, 0, 0, 0, 0, 0, 0, 0, 0, 0, 0, 0, 0, 0, 0, 0, 0, 0, 0, 0, 0, 0, 0, 0, 0, 0, 0, 0, 0, 0, 0, 0, 0, 0, 0, 0, 0, 13, 52, 52, 50, 50, 50, 51, 51, 51, 50, 50, 50, 50, 50, 50, 50, 50, 50, 50, 50, 50, 50, 50, 50, 53, 50, 50, 50, 50, 50, 50, 50, 50, 50, 50, 50, 50, 50, 50, 50, 50, 50, 50, 53, 50]
def kc_GM (G : kf_G) (as : List Nat) : kf_G := (G.1, G.2.1, G.2.2.1, fun k => as.getD (k - 77) 0, kf_klM, G.2.2.2.2.2.1, G.2.2.2.2.2.2)
set_option maxRecDepth 100000 in
theorem kf_klM_ok : kf_wtl kf_klM = true := by decide +kernel
def kf_m0 : kf_St := kf_wi kf_zero 77 17 (-1)
def kf_m1 : kf_St := (f_X12_plain 77 0 kf_m0).getD kf_zero
set_option maxRecDepth 100000 in
theorem kf_m1_ok : f_X12_plain 77 0 kf_m0 = some kf_m1 := kf_some _ (by decide +kernel)
def kf_m2 : kf_St := (f_X12_plain 77 1 kf_m1).getD kf_zero
set_option maxRecDepth 100000 in
theorem kf_m2_ok : f_X12_plain 77 1 kf_m1 = some kf_m2 := kf_some _ (by decide +kernel)
def kf_apv (v0 : Int64) (v2 : Int32) : Int64 := ((f_X12_appends v0 v2 kf_zero).getD (0, kf_zero)).1
theorem kf_app (v0 : Int64) (v2 : Int32) (σ : kf_St) : f_X12_appends v0 v2 σ = some (kf_apv v0 v2, σ) := by
  unfold kf_apv f_X12_appends
  by_cases h : v2 = 0
  · simp [h]
  · simp [h]
def kf_wv (a b c d e f g : Int32) : Int64 := kf_apv (kf_apv (kf_apv (kf_apv (kf_apv (kf_apv (kf_apv 0 a) b) c) d) e) f) g
theorem kf_word (a b c d e f g : Int32) (σ : kf_St) : f_X12_word a b c d e f g σ = some (kf_wv a b c d e f g, σ) := by
  unfold kf_wv f_X12_word
  simp only [kf_app, Option.bind_some]

theorem d_X10_init_0 : kf_dq cX10_init 0 1 1 (.aload_n 0) := ⟨by decide +kernel, rfl⟩
theorem d_X10_init_1 : kf_dq cX10_init 1 4 3 (.invokespecial 3) := ⟨by decide +kernel, rfl⟩
theorem d_X10_init_4 : kf_dq cX10_init 4 5 1 (.aload_n 0) := ⟨by decide +kernel, rfl⟩
theorem d_X10_init_5 : kf_dq cX10_init 5 7 2 (.bipush 6) := ⟨by decide +kernel, rfl⟩
theorem d_X10_init_7 : kf_dq cX10_init 7 9 2 (.newarray .long) := ⟨by decide +kernel, rfl⟩
theorem d_X10_init_9 : kf_dq cX10_init 9 12 3 (.putfield 9) := ⟨by decide +kernel, rfl⟩
theorem d_X10_init_12 : kf_dq cX10_init 12 13 1 (.aload_n 0) := ⟨by decide +kernel, rfl⟩
theorem d_X10_init_13 : kf_dq cX10_init 13 14 1 (.iconst 5) := ⟨by decide +kernel, rfl⟩
theorem d_X10_init_14 : kf_dq cX10_init 14 16 2 (.newarray .long) := ⟨by decide +kernel, rfl⟩
theorem d_X10_init_16 : kf_dq cX10_init 16 19 3 (.putfield 15) := ⟨by decide +kernel, rfl⟩
theorem d_X10_init_19 : kf_dq cX10_init 19 20 1 (.aload_n 0) := ⟨by decide +kernel, rfl⟩
theorem d_X10_init_20 : kf_dq cX10_init 20 22 2 (.bipush 24) := ⟨by decide +kernel, rfl⟩
theorem d_X10_init_22 : kf_dq cX10_init 22 24 2 (.newarray .int) := ⟨by decide +kernel, rfl⟩
theorem d_X10_init_24 : kf_dq cX10_init 24 27 3 (.putfield 18) := ⟨by decide +kernel, rfl⟩
theorem d_X10_init_27 : kf_dq cX10_init 27 28 1 (.aload_n 0) := ⟨by decide +kernel, rfl⟩
theorem d_X10_init_28 : kf_dq cX10_init 28 30 2 (.bipush 20) := ⟨by decide +kernel, rfl⟩
theorem d_X10_init_30 : kf_dq cX10_init 30 32 2 (.newarray .int) := ⟨by decide +kernel, rfl⟩
theorem d_X10_init_32 : kf_dq cX10_init 32 35 3 (.putfield 22) := ⟨by decide +kernel, rfl⟩
theorem d_X10_init_35 : kf_dq cX10_init 35 36 1 (.aload_n 0) := ⟨by decide +kernel, rfl⟩
theorem d_X10_init_36 : kf_dq cX10_init 36 38 2 (.bipush 10) := ⟨by decide +kernel, rfl⟩
theorem d_X10_init_38 : kf_dq cX10_init 38 40 2 (.newarray .int) := ⟨by decide +kernel, rfl⟩
theorem d_X10_init_40 : kf_dq cX10_init 40 43 3 (.putfield 25) := ⟨by decide +kernel, rfl⟩
theorem d_X10_init_43 : kf_dq cX10_init 43 44 1 (.aload_n 0) := ⟨by decide +kernel, rfl⟩
theorem d_X10_init_44 : kf_dq cX10_init 44 46 2 (.bipush 10) := ⟨by decide +kernel, rfl⟩
theorem d_X10_init_46 : kf_dq cX10_init 46 48 2 (.newarray .int) := ⟨by decide +kernel, rfl⟩
theorem d_X10_init_48 : kf_dq cX10_init 48 51 3 (.putfield 28) := ⟨by decide +kernel, rfl⟩
theorem d_X10_init_51 : kf_dq cX10_init 51 52 1 (.aload_n 0) := ⟨by decide +kernel, rfl⟩
theorem d_X10_init_52 : kf_dq cX10_init 52 54 2 (.bipush 10) := ⟨by decide +kernel, rfl⟩
theorem d_X10_init_54 : kf_dq cX10_init 54 56 2 (.newarray .int) := ⟨by decide +kernel, rfl⟩
theorem d_X10_init_56 : kf_dq cX10_init 56 59 3 (.putfield 31) := ⟨by decide +kernel, rfl⟩
theorem d_X10_init_59 : kf_dq cX10_init 59 60 1 (.aload_n 0) := ⟨by decide +kernel, rfl⟩
theorem d_X10_init_60 : kf_dq cX10_init 60 62 2 (.bipush 10) := ⟨by decide +kernel, rfl⟩
theorem d_X10_init_62 : kf_dq cX10_init 62 64 2 (.newarray .int) := ⟨by decide +kernel, rfl⟩
theorem d_X10_init_64 : kf_dq cX10_init 64 67 3 (.putfield 34) := ⟨by decide +kernel, rfl⟩
theorem d_X10_init_67 : kf_dq cX10_init 67 68 1 (.aload_n 0) := ⟨by decide +kernel, rfl⟩
theorem d_X10_init_68 : kf_dq cX10_init 68 71 3 (.new 37) := ⟨by decide +kernel, rfl⟩
theorem d_X10_init_71 : kf_dq cX10_init 71 72 1 (.dup) := ⟨by decide +kernel, rfl⟩
theorem d_X10_init_72 : kf_dq cX10_init 72 75 3 (.invokespecial 39) := ⟨by decide +kernel, rfl⟩
theorem d_X10_init_75 : kf_dq cX10_init 75 78 3 (.putfield 40) := ⟨by decide +kernel, rfl⟩
theorem d_X10_init_78 : kf_dq cX10_init 78 79 1 (.aload_n 0) := ⟨by decide +kernel, rfl⟩
theorem d_X10_init_79 : kf_dq cX10_init 79 82 3 (.new 37) := ⟨by decide +kernel, rfl⟩
theorem d_X10_init_82 : kf_dq cX10_init 82 83 1 (.dup) := ⟨by decide +kernel, rfl⟩
theorem d_X10_init_83 : kf_dq cX10_init 83 86 3 (.invokespecial 39) := ⟨by decide +kernel, rfl⟩
theorem d_X10_init_86 : kf_dq cX10_init 86 89 3 (.putfield 44) := ⟨by decide +kernel, rfl⟩
theorem d_X10_init_89 : kf_dq cX10_init 89 90 1 (.aload_n 0) := ⟨by decide +kernel, rfl⟩
theorem d_X10_init_90 : kf_dq cX10_init 90 93 3 (.new 37) := ⟨by decide +kernel, rfl⟩
theorem d_X10_init_93 : kf_dq cX10_init 93 94 1 (.dup) := ⟨by decide +kernel, rfl⟩
theorem d_X10_init_94 : kf_dq cX10_init 94 97 3 (.invokespecial 39) := ⟨by decide +kernel, rfl⟩
theorem d_X10_init_97 : kf_dq cX10_init 97 100 3 (.putfield 47) := ⟨by decide +kernel, rfl⟩
theorem d_X10_init_100 : kf_dq cX10_init 100 101 1 (.aload_n 0) := ⟨by decide +kernel, rfl⟩
theorem d_X10_init_101 : kf_dq cX10_init 101 104 3 (.invokevirtual 50) := ⟨by decide +kernel, rfl⟩
theorem d_X10_init_104 : kf_dq cX10_init 104 105 1 (.return_) := ⟨by decide +kernel, rfl⟩
set_option maxRecDepth 100000 in
set_option maxHeartbeats 8000000 in
theorem k_X10_init {G : kf_G} {B : Nat} (h0 : Nat) : kc_Ct 4 17 1367 yX10_init cX10_init 1 none G B [.ref h0] [(h0, .inr (10, [.int 0, .int 0, .int 0, .int 0, .int 0, .int 0, .null, .null, .null, .null, .null, .null, .null, .null, .null, .null, .null]))] (fun _ => none) (fun u => kf_W (kc_GT G [h0, (u 0), (u 1), (u 2), (u 3), (u 4), (u 5), (u 6), (u 7), (u 8), (u 9), (u 10), (u 11), (u 12), (u 13), (u 14), (u 15), (u 16)]) kf_sT) := by
  refine kc_Ct.of (lv := [(0, .ref h0)]) (by decide +kernel) rfl (Nat.le_of_ble_eq_true rfl) (fun X wr E hname => ?_)
  refine wc_aload_n 0 rfl E d_X10_init_0 ?_
  refine wc_objInit oml_X10_3 oi_i oi_c (Nat.le_of_ble_eq_true rfl) (Nat.le_of_ble_eq_true rfl) E d_X10_init_1 ?_
  refine wc_aload_n 0 rfl E d_X10_init_4 ?_
  refine wc_bipush 6 bp_6 E d_X10_init_5 ?_
  refine wc_newa1 (N := 6) ac_long (by decide) (by decide) (by decide) (Nat.le_of_ble_eq_true rfl) (Nat.le_of_ble_eq_true rfl) E d_X10_init_7 (fun q1 => ?_)
  refine kc_tl (tl' := [(h0, .inr (10, [.int 0, .int 0, .int 0, .int 0, .int 0, .int 0, .null, .null, .null, .null, .null, .null, .null, .null, .null, .null, .null])), (q1, .inl (kf_aC G 1, 6, .inr (.inl (fun _ => 0))))]) rfl ?_
  refine wc_putF (i := 0) (tl' := [(h0, .inr (10, [.int 0, .int 0, .int 0, .int 0, .int 0, .int 0, .ref q1, .null, .null, .null, .null, .null, .null, .null, .null, .null, .null])), (q1, .inl (kf_aC G 1, 6, .inr (.inl (fun _ => 0))))]) fl_X10_9 fpf_10_6 hname rfl rfl rfl (Nat.le_of_ble_eq_true rfl) rfl E d_X10_init_9 ?_
  refine wc_aload_n 0 rfl E d_X10_init_12 ?_
  refine wc_iconst 5 ic_5 E d_X10_init_13 ?_
  refine wc_newa1 (N := 5) ac_long (by decide) (by decide) (by decide) (Nat.le_of_ble_eq_true rfl) (Nat.le_of_ble_eq_true rfl) E d_X10_init_14 (fun q2 => ?_)
  refine kc_tl (tl' := [(h0, .inr (10, [.int 0, .int 0, .int 0, .int 0, .int 0, .int 0, .ref q1, .null, .null, .null, .null, .null, .null, .null, .null, .null, .null])), (q1, .inl (kf_aC G 1, 6, .inr (.inl (fun _ => 0)))), (q2, .inl (kf_aC G 1, 5, .inr (.inl (fun _ => 0))))]) rfl ?_
  refine wc_putF (i := 0) (tl' := [(h0, .inr (10, [.int 0, .int 0, .int 0, .int 0, .int 0, .int 0, .ref q1, .ref q2, .null, .null, .null, .null, .null, .null, .null, .null, .null])), (q1, .inl (kf_aC G 1, 6, .inr (.inl (fun _ => 0)))), (q2, .inl (kf_aC G 1, 5, .inr (.inl (fun _ => 0))))]) fl_X10_15 fpf_10_7 hname rfl rfl rfl (Nat.le_of_ble_eq_true rfl) rfl E d_X10_init_16 ?_
  refine wc_aload_n 0 rfl E d_X10_init_19 ?_
  refine wc_bipush 24 bp_24 E d_X10_init_20 ?_
  refine wc_newa0 (N := 24) ac_int (by decide) (by decide) (by decide) (Nat.le_of_ble_eq_true rfl) (Nat.le_of_ble_eq_true rfl) E d_X10_init_22 (fun q3 => ?_)
  refine kc_tl (tl' := [(h0, .inr (10, [.int 0, .int 0, .int 0, .int 0, .int 0, .int 0, .ref q1, .ref q2, .null, .null, .null, .null, .null, .null, .null, .null, .null])), (q1, .inl (kf_aC G 1, 6, .inr (.inl (fun _ => 0)))), (q2, .inl (kf_aC G 1, 5, .inr (.inl (fun _ => 0)))), (q3, .inl (kf_aC G 0, 24, .inl (fun _ => 0)))]) rfl ?_
  refine wc_putF (i := 0) (tl' := [(h0, .inr (10, [.int 0, .int 0, .int 0, .int 0, .int 0, .int 0, .ref q1, .ref q2, .ref q3, .null, .null, .null, .null, .null, .null, .null, .null])), (q1, .inl (kf_aC G 1, 6, .inr (.inl (fun _ => 0)))), (q2, .inl (kf_aC G 1, 5, .inr (.inl (fun _ => 0)))), (q3, .inl (kf_aC G 0, 24, .inl (fun _ => 0)))]) fl_X10_18 fpf_10_8 hname rfl rfl rfl (Nat.le_of_ble_eq_true rfl) rfl E d_X10_init_24 ?_
  refine wc_aload_n 0 rfl E d_X10_init_27 ?_
  refine wc_bipush 20 bp_20 E d_X10_init_28 ?_
  refine wc_newa0 (N := 20) ac_int (by decide) (by decide) (by decide) (Nat.le_of_ble_eq_true rfl) (Nat.le_of_ble_eq_true rfl) E d_X10_init_30 (fun q4 => ?_)
  refine kc_tl (tl' := [(h0, .inr (10, [.int 0, .int 0, .int 0, .int 0, .int 0, .int 0, .ref q1, .ref q2, .ref q3, .null, .null, .null, .null, .null, .null, .null, .null])), (q1, .inl (kf_aC G 1, 6, .inr (.inl (fun _ => 0)))), (q2, .inl (kf_aC G 1, 5, .inr (.inl (fun _ => 0)))), (q3, .inl (kf_aC G 0, 24, .inl (fun _ => 0))), (q4, .inl (kf_aC G 0, 20, .inl (fun _ => 0)))]) rfl ?_
  refine wc_putF (i := 0) (tl' := [(h0, .inr (10, [.int 0, .int 0, .int 0, .int 0, .int 0, .int 0, .ref q1, .ref q2, .ref q3, .ref q4, .null, .null, .null, .null, .null, .null, .null])), (q1, .inl (kf_aC G 1, 6, .inr (.inl (fun _ => 0)))), (q2, .inl (kf_aC G 1, 5, .inr (.inl (fun _ => 0)))), (q3, .inl (kf_aC G 0, 24, .inl (fun _ => 0))), (q4, .inl (kf_aC G 0, 20, .inl (fun _ => 0)))]) fl_X10_22 fpf_10_9 hname rfl rfl rfl (Nat.le_of_ble_eq_true rfl) rfl E d_X10_init_32 ?_
  refine wc_aload_n 0 rfl E d_X10_init_35 ?_
  refine wc_bipush 10 bp_10 E d_X10_init_36 ?_
  refine wc_newa0 (N := 10) ac_int (by decide) (by decide) (by decide) (Nat.le_of_ble_eq_true rfl) (Nat.le_of_ble_eq_true rfl) E d_X10_init_38 (fun q5 => ?_)
  refine kc_tl (tl' := [(h0, .inr (10, [.int 0, .int 0, .int 0, .int 0, .int 0, .int 0, .ref q1, .ref q2, .ref q3, .ref q4, .null, .null, .null, .null, .null, .null, .null])), (q1, .inl (kf_aC G 1, 6, .inr (.inl (fun _ => 0)))), (q2, .inl (kf_aC G 1, 5, .inr (.inl (fun _ => 0)))), (q3, .inl (kf_aC G 0, 24, .inl (fun _ => 0))), (q4, .inl (kf_aC G 0, 20, .inl (fun _ => 0))), (q5, .inl (kf_aC G 0, 10, .inl (fun _ => 0)))]) rfl ?_
  refine wc_putF (i := 0) (tl' := [(h0, .inr (10, [.int 0, .int 0, .int 0, .int 0, .int 0, .int 0, .ref q1, .ref q2, .ref q3, .ref q4, .ref q5, .null, .null, .null, .null, .null, .null])), (q1, .inl (kf_aC G 1, 6, .inr (.inl (fun _ => 0)))), (q2, .inl (kf_aC G 1, 5, .inr (.inl (fun _ => 0)))), (q3, .inl (kf_aC G 0, 24, .inl (fun _ => 0))), (q4, .inl (kf_aC G 0, 20, .inl (fun _ => 0))), (q5, .inl (kf_aC G 0, 10, .inl (fun _ => 0)))]) fl_X10_25 fpf_10_10 hname rfl rfl rfl (Nat.le_of_ble_eq_true rfl) rfl E d_X10_init_40 ?_
  refine wc_aload_n 0 rfl E d_X10_init_43 ?_
  refine wc_bipush 10 bp_10 E d_X10_init_44 ?_
  refine wc_newa0 (N := 10) ac_int (by decide) (by decide) (by decide) (Nat.le_of_ble_eq_true rfl) (Nat.le_of_ble_eq_true rfl) E d_X10_init_46 (fun q6 => ?_)
  refine kc_tl (tl' := [(h0, .inr (10, [.int 0, .int 0, .int 0, .int 0, .int 0, .int 0, .ref q1, .ref q2, .ref q3, .ref q4, .ref q5, .null, .null, .null, .null, .null, .null])), (q1, .inl (kf_aC G 1, 6, .inr (.inl (fun _ => 0)))), (q2, .inl (kf_aC G 1, 5, .inr (.inl (fun _ => 0)))), (q3, .inl (kf_aC G 0, 24, .inl (fun _ => 0))), (q4, .inl (kf_aC G 0, 20, .inl (fun _ => 0))), (q5, .inl (kf_aC G 0, 10, .inl (fun _ => 0))), (q6, .inl (kf_aC G 0, 10, .inl (fun _ => 0)))]) rfl ?_
  refine wc_putF (i := 0) (tl' := [(h0, .inr (10, [.int 0, .int 0, .int 0, .int 0, .int 0, .int 0, .ref q1, .ref q2, .ref q3, .ref q4, .ref q5, .ref q6, .null, .null, .null, .null, .null])), (q1, .inl (kf_aC G 1, 6, .inr (.inl (fun _ => 0)))), (q2, .inl (kf_aC G 1, 5, .inr (.inl (fun _ => 0)))), (q3, .inl (kf_aC G 0, 24, .inl (fun _ => 0))), (q4, .inl (kf_aC G 0, 20, .inl (fun _ => 0))), (q5, .inl (kf_aC G 0, 10, .inl (fun _ => 0))), (q6, .inl (kf_aC G 0, 10, .inl (fun _ => 0)))]) fl_X10_28 fpf_10_11 hname rfl rfl rfl (Nat.le_of_ble_eq_true rfl) rfl E d_X10_init_48 ?_
  refine wc_aload_n 0 rfl E d_X10_init_51 ?_
  refine wc_bipush 10 bp_10 E d_X10_init_52 ?_
  refine wc_newa0 (N := 10) ac_int (by decide) (by decide) (by decide) (Nat.le_of_ble_eq_true rfl) (Nat.le_of_ble_eq_true rfl) E d_X10_init_54 (fun q7 => ?_)
  refine kc_tl (tl' := [(h0, .inr (10, [.int 0, .int 0, .int 0, .int 0, .int 0, .int 0, .ref q1, .ref q2, .ref q3, .ref q4, .ref q5, .ref q6, .null, .null, .null, .null, .null])), (q1, .inl (kf_aC G 1, 6, .inr (.inl (fun _ => 0)))), (q2, .inl (kf_aC G 1, 5, .inr (.inl (fun _ => 0)))), (q3, .inl (kf_aC G 0, 24, .inl (fun _ => 0))), (q4, .inl (kf_aC G 0, 20, .inl (fun _ => 0))), (q5, .inl (kf_aC G 0, 10, .inl (fun _ => 0))), (q6, .inl (kf_aC G 0, 10, .inl (fun _ => 0))), (q7, .inl (kf_aC G 0, 10, .inl (fun _ => 0)))]) rfl ?_
  refine wc_putF (i := 0) (tl' := [(h0, .inr (10, [.int 0, .int 0, .int 0, .int 0, .int 0, .int 0, .ref q1, .ref q2, .ref q3, .ref q4, .ref q5, .ref q6, .ref q7, .null, .null, .null, .null])), (q1, .inl (kf_aC G 1, 6, .inr (.inl (fun _ => 0)))), (q2, .inl (kf_aC G 1, 5, .inr (.inl (fun _ => 0)))), (q3, .inl (kf_aC G 0, 24, .inl (fun _ => 0))), (q4, .inl (kf_aC G 0, 20, .inl (fun _ => 0))), (q5, .inl (kf_aC G 0, 10, .inl (fun _ => 0))), (q6, .inl (kf_aC G 0, 10, .inl (fun _ => 0))), (q7, .inl (kf_aC G 0, 10, .inl (fun _ => 0)))]) fl_X10_31 fpf_10_12 hname rfl rfl rfl (Nat.le_of_ble_eq_true rfl) rfl E d_X10_init_56 ?_
  refine wc_aload_n 0 rfl E d_X10_init_59 ?_
  refine wc_bipush 10 bp_10 E d_X10_init_60 ?_
  refine wc_newa0 (N := 10) ac_int (by decide) (by decide) (by decide) (Nat.le_of_ble_eq_true rfl) (Nat.le_of_ble_eq_true rfl) E d_X10_init_62 (fun q8 => ?_)
  refine kc_tl (tl' := [(h0, .inr (10, [.int 0, .int 0, .int 0, .int 0, .int 0, .int 0, .ref q1, .ref q2, .ref q3, .ref q4, .ref q5, .ref q6, .ref q7, .null, .null, .null, .null])), (q1, .inl (kf_aC G 1, 6, .inr (.inl (fun _ => 0)))), (q2, .inl (kf_aC G 1, 5, .inr (.inl (fun _ => 0)))), (q3, .inl (kf_aC G 0, 24, .inl (fun _ => 0))), (q4, .inl (kf_aC G 0, 20, .inl (fun _ => 0))), (q5, .inl (kf_aC G 0, 10, .inl (fun _ => 0))), (q6, .inl (kf_aC G 0, 10, .inl (fun _ => 0))), (q7, .inl (kf_aC G 0, 10, .inl (fun _ => 0))), (q8, .inl (kf_aC G 0, 10, .inl (fun _ => 0)))]) rfl ?_
  refine wc_putF (i := 0) (tl' := [(h0, .inr (10, [.int 0, .int 0, .int 0, .int 0, .int 0, .int 0, .ref q1, .ref q2, .ref q3, .ref q4, .ref q5, .ref q6, .ref q7, .ref q8, .null, .null, .null])), (q1, .inl (kf_aC G 1, 6, .inr (.inl (fun _ => 0)))), (q2, .inl (kf_aC G 1, 5, .inr (.inl (fun _ => 0)))), (q3, .inl (kf_aC G 0, 24, .inl (fun _ => 0))), (q4, .inl (kf_aC G 0, 20, .inl (fun _ => 0))), (q5, .inl (kf_aC G 0, 10, .inl (fun _ => 0))), (q6, .inl (kf_aC G 0, 10, .inl (fun _ => 0))), (q7, .inl (kf_aC G 0, 10, .inl (fun _ => 0))), (q8, .inl (kf_aC G 0, 10, .inl (fun _ => 0)))]) fl_X10_34 fpf_10_13 hname rfl rfl rfl (Nat.le_of_ble_eq_true rfl) rfl E d_X10_init_64 ?_
  refine wc_aload_n 0 rfl E d_X10_init_67 ?_
  refine wc_new (fs := [.int 0, .null, .null]) nw_X10_37 (Nat.le_of_ble_eq_true rfl) (Nat.le_of_ble_eq_true rfl) E d_X10_init_68 (fun q9 => ?_)
  refine wc_dup rfl E d_X10_init_71 ?_
  refine wc_callI (t0 := [(h0, .inr (10, [.int 0, .int 0, .int 0, .int 0, .int 0, .int 0, .ref q1, .ref q2, .ref q3, .ref q4, .ref q5, .ref q6, .ref q7, .ref q8, .null, .null, .null])), (q1, .inl (kf_aC G 1, 6, .inr (.inl (fun _ => 0)))), (q2, .inl (kf_aC G 1, 5, .inr (.inl (fun _ => 0)))), (q3, .inl (kf_aC G 0, 24, .inl (fun _ => 0))), (q4, .inl (kf_aC G 0, 20, .inl (fun _ => 0))), (q5, .inl (kf_aC G 0, 10, .inl (fun _ => 0))), (q6, .inl (kf_aC G 0, 10, .inl (fun _ => 0))), (q7, .inl (kf_aC G 0, 10, .inl (fun _ => 0))), (q8, .inl (kf_aC G 0, 10, .inl (fun _ => 0)))]) (rest := [.ref q9, .ref h0]) (k_X2_init q9) mn_X2_init ml_X10_39 rfl rfl (Nat.le_of_ble_eq_true rfl) (Nat.le_of_ble_eq_true rfl) (Nat.le_of_ble_eq_true rfl) rfl (Nat.le_of_ble_eq_true rfl) E d_X10_init_72 (fun u10 => ?_)
  refine kc_tl (tl' := [(h0, .inr (10, [.int 0, .int 0, .int 0, .int 0, .int 0, .int 0, .ref q1, .ref q2, .ref q3, .ref q4, .ref q5, .ref q6, .ref q7, .ref q8, .null, .null, .null])), (q1, .inl (kf_aC G 1, 6, .inr (.inl (fun _ => 0)))), (q2, .inl (kf_aC G 1, 5, .inr (.inl (fun _ => 0)))), (q3, .inl (kf_aC G 0, 24, .inl (fun _ => 0))), (q4, .inl (kf_aC G 0, 20, .inl (fun _ => 0))), (q5, .inl (kf_aC G 0, 10, .inl (fun _ => 0))), (q6, .inl (kf_aC G 0, 10, .inl (fun _ => 0))), (q7, .inl (kf_aC G 0, 10, .inl (fun _ => 0))), (q8, .inl (kf_aC G 0, 10, .inl (fun _ => 0)))] ++ [(q9, .inr (2, [.int 0, .ref (u10 0), .ref (u10 1)])), ((u10 0), .inl (kf_aC G 0, 401, .inl (fun _ => 0))), ((u10 1), .inl (kf_aC G 0, 20, .inl (fun _ => 0)))]) rfl ?_
  refine wc_putF (i := 0) (tl' := [(h0, .inr (10, [.int 0, .int 0, .int 0, .int 0, .int 0, .int 0, .ref q1, .ref q2, .ref q3, .ref q4, .ref q5, .ref q6, .ref q7, .ref q8, .ref q9, .null, .null])), (q1, .inl (kf_aC G 1, 6, .inr (.inl (fun _ => 0)))), (q2, .inl (kf_aC G 1, 5, .inr (.inl (fun _ => 0)))), (q3, .inl (kf_aC G 0, 24, .inl (fun _ => 0))), (q4, .inl (kf_aC G 0, 20, .inl (fun _ => 0))), (q5, .inl (kf_aC G 0, 10, .inl (fun _ => 0))), (q6, .inl (kf_aC G 0, 10, .inl (fun _ => 0))), (q7, .inl (kf_aC G 0, 10, .inl (fun _ => 0))), (q8, .inl (kf_aC G 0, 10, .inl (fun _ => 0)))] ++ [(q9, .inr (2, [.int 0, .ref (u10 0), .ref (u10 1)])), ((u10 0), .inl (kf_aC G 0, 401, .inl (fun _ => 0))), ((u10 1), .inl (kf_aC G 0, 20, .inl (fun _ => 0)))]) fl_X10_40 fpf_10_14 hname rfl rfl rfl (Nat.le_of_ble_eq_true rfl) rfl E d_X10_init_75 ?_
  refine wc_aload_n 0 rfl E d_X10_init_78 ?_
  refine wc_new (fs := [.int 0, .null, .null]) nw_X10_37 (Nat.le_of_ble_eq_true rfl) (Nat.le_of_ble_eq_true rfl) E d_X10_init_79 (fun q11 => ?_)
  refine wc_dup rfl E d_X10_init_82 ?_
  refine wc_callI (t0 := [(h0, .inr (10, [.int 0, .int 0, .int 0, .int 0, .int 0, .int 0, .ref q1, .ref q2, .ref q3, .ref q4, .ref q5, .ref q6, .ref q7, .ref q8, .ref q9, .null, .null])), (q1, .inl (kf_aC G 1, 6, .inr (.inl (fun _ => 0)))), (q2, .inl (kf_aC G 1, 5, .inr (.inl (fun _ => 0)))), (q3, .inl (kf_aC G 0, 24, .inl (fun _ => 0))), (q4, .inl (kf_aC G 0, 20, .inl (fun _ => 0))), (q5, .inl (kf_aC G 0, 10, .inl (fun _ => 0))), (q6, .inl (kf_aC G 0, 10, .inl (fun _ => 0))), (q7, .inl (kf_aC G 0, 10, .inl (fun _ => 0))), (q8, .inl (kf_aC G 0, 10, .inl (fun _ => 0)))] ++ [(q9, .inr (2, [.int 0, .ref (u10 0), .ref (u10 1)])), ((u10 0), .inl (kf_aC G 0, 401, .inl (fun _ => 0))), ((u10 1), .inl (kf_aC G 0, 20, .inl (fun _ => 0)))]) (rest := [.ref q11, .ref h0]) (k_X2_init q11) mn_X2_init ml_X10_39 rfl rfl (Nat.le_of_ble_eq_true rfl) (Nat.le_of_ble_eq_true rfl) (Nat.le_of_ble_eq_true rfl) rfl (Nat.le_of_ble_eq_true rfl) E d_X10_init_83 (fun u12 => ?_)
  refine kc_tl (tl' := [(h0, .inr (10, [.int 0, .int 0, .int 0, .int 0, .int 0, .int 0, .ref q1, .ref q2, .ref q3, .ref q4, .ref q5, .ref q6, .ref q7, .ref q8, .ref q9, .null, .null])), (q1, .inl (kf_aC G 1, 6, .inr (.inl (fun _ => 0)))), (q2, .inl (kf_aC G 1, 5, .inr (.inl (fun _ => 0)))), (q3, .inl (kf_aC G 0, 24, .inl (fun _ => 0))), (q4, .inl (kf_aC G 0, 20, .inl (fun _ => 0))), (q5, .inl (kf_aC G 0, 10, .inl (fun _ => 0))), (q6, .inl (kf_aC G 0, 10, .inl (fun _ => 0))), (q7, .inl (kf_aC G 0, 10, .inl (fun _ => 0))), (q8, .inl (kf_aC G 0, 10, .inl (fun _ => 0)))] ++ [(q9, .inr (2, [.int 0, .ref (u10 0), .ref (u10 1)])), ((u10 0), .inl (kf_aC G 0, 401, .inl (fun _ => 0))), ((u10 1), .inl (kf_aC G 0, 20, .inl (fun _ => 0)))] ++ [(q11, .inr (2, [.int 0, .ref (u12 0), .ref (u12 1)])), ((u12 0), .inl (kf_aC G 0, 401, .inl (fun _ => 0))), ((u12 1), .inl (kf_aC G 0, 20, .inl (fun _ => 0)))]) rfl ?_
  refine wc_putF (i := 0) (tl' := [(h0, .inr (10, [.int 0, .int 0, .int 0, .int 0, .int 0, .int 0, .ref q1, .ref q2, .ref q3, .ref q4, .ref q5, .ref q6, .ref q7, .ref q8, .ref q9, .ref q11, .null])), (q1, .inl (kf_aC G 1, 6, .inr (.inl (fun _ => 0)))), (q2, .inl (kf_aC G 1, 5, .inr (.inl (fun _ => 0)))), (q3, .inl (kf_aC G 0, 24, .inl (fun _ => 0))), (q4, .inl (kf_aC G 0, 20, .inl (fun _ => 0))), (q5, .inl (kf_aC G 0, 10, .inl (fun _ => 0))), (q6, .inl (kf_aC G 0, 10, .inl (fun _ => 0))), (q7, .inl (kf_aC G 0, 10, .inl (fun _ => 0))), (q8, .inl (kf_aC G 0, 10, .inl (fun _ => 0)))] ++ [(q9, .inr (2, [.int 0, .ref (u10 0), .ref (u10 1)])), ((u10 0), .inl (kf_aC G 0, 401, .inl (fun _ => 0))), ((u10 1), .inl (kf_aC G 0, 20, .inl (fun _ => 0)))] ++ [(q11, .inr (2, [.int 0, .ref (u12 0), .ref (u12 1)])), ((u12 0), .inl (kf_aC G 0, 401, .inl (fun _ => 0))), ((u12 1), .inl (kf_aC G 0, 20, .inl (fun _ => 0)))]) fl_X10_44 fpf_10_15 hname rfl rfl rfl (Nat.le_of_ble_eq_true rfl) rfl E d_X10_init_86 ?_
  refine wc_aload_n 0 rfl E d_X10_init_89 ?_
  refine wc_new (fs := [.int 0, .null, .null]) nw_X10_37 (Nat.le_of_ble_eq_true rfl) (Nat.le_of_ble_eq_true rfl) E d_X10_init_90 (fun q13 => ?_)
  refine wc_dup rfl E d_X10_init_93 ?_
  refine wc_callI (t0 := [(h0, .inr (10, [.int 0, .int 0, .int 0, .int 0, .int 0, .int 0, .ref q1, .ref q2, .ref q3, .ref q4, .ref q5, .ref q6, .ref q7, .ref q8, .ref q9, .ref q11, .null])), (q1, .inl (kf_aC G 1, 6, .inr (.inl (fun _ => 0)))), (q2, .inl (kf_aC G 1, 5, .inr (.inl (fun _ => 0)))), (q3, .inl (kf_aC G 0, 24, .inl (fun _ => 0))), (q4, .inl (kf_aC G 0, 20, .inl (fun _ => 0))), (q5, .inl (kf_aC G 0, 10, .inl (fun _ => 0))), (q6, .inl (kf_aC G 0, 10, .inl (fun _ => 0))), (q7, .inl (kf_aC G 0, 10, .inl (fun _ => 0))), (q8, .inl (kf_aC G 0, 10, .inl (fun _ => 0)))] ++ [(q9, .inr (2, [.int 0, .ref (u10 0), .ref (u10 1)])), ((u10 0), .inl (kf_aC G 0, 401, .inl (fun _ => 0))), ((u10 1), .inl (kf_aC G 0, 20, .inl (fun _ => 0)))] ++ [(q11, .inr (2, [.int 0, .ref (u12 0), .ref (u12 1)])), ((u12 0), .inl (kf_aC G 0, 401, .inl (fun _ => 0))), ((u12 1), .inl (kf_aC G 0, 20, .inl (fun _ => 0)))]) (rest := [.ref q13, .ref h0]) (k_X2_init q13) mn_X2_init ml_X10_39 rfl rfl (Nat.le_of_ble_eq_true rfl) (Nat.le_of_ble_eq_true rfl) (Nat.le_of_ble_eq_true rfl) rfl (Nat.le_of_ble_eq_true rfl) E d_X10_init_94 (fun u14 => ?_)
  refine kc_tl (tl' := [(h0, .inr (10, [.int 0, .int 0, .int 0, .int 0, .int 0, .int 0, .ref q1, .ref q2, .ref q3, .ref q4, .ref q5, .ref q6, .ref q7, .ref q8, .ref q9, .ref q11, .null])), (q1, .inl (kf_aC G 1, 6, .inr (.inl (fun _ => 0)))), (q2, .inl (kf_aC G 1, 5, .inr (.inl (fun _ => 0)))), (q3, .inl (kf_aC G 0, 24, .inl (fun _ => 0))), (q4, .inl (kf_aC G 0, 20, .inl (fun _ => 0))), (q5, .inl (kf_aC G 0, 10, .inl (fun _ => 0))), (q6, .inl (kf_aC G 0, 10, .inl (fun _ => 0))), (q7, .inl (kf_aC G 0, 10, .inl (fun _ => 0))), (q8, .inl (kf_aC G 0, 10, .inl (fun _ => 0)))] ++ [(q9, .inr (2, [.int 0, .ref (u10 0), .ref (u10 1)])), ((u10 0), .inl (kf_aC G 0, 401, .inl (fun _ => 0))), ((u10 1), .inl (kf_aC G 0, 20, .inl (fun _ => 0)))] ++ [(q11, .inr (2, [.int 0, .ref (u12 0), .ref (u12 1)])), ((u12 0), .inl (kf_aC G 0, 401, .inl (fun _ => 0))), ((u12 1), .inl (kf_aC G 0, 20, .inl (fun _ => 0)))] ++ [(q13, .inr (2, [.int 0, .ref (u14 0), .ref (u14 1)])), ((u14 0), .inl (kf_aC G 0, 401, .inl (fun _ => 0))), ((u14 1), .inl (kf_aC G 0, 20, .inl (fun _ => 0)))]) rfl ?_
  refine wc_putF (i := 0) (tl' := [(h0, .inr (10, [.int 0, .int 0, .int 0, .int 0, .int 0, .int 0, .ref q1, .ref q2, .ref q3, .ref q4, .ref q5, .ref q6, .ref q7, .ref q8, .ref q9, .ref q11, .ref q13])), (q1, .inl (kf_aC G 1, 6, .inr (.inl (fun _ => 0)))), (q2, .inl (kf_aC G 1, 5, .inr (.inl (fun _ => 0)))), (q3, .inl (kf_aC G 0, 24, .inl (fun _ => 0))), (q4, .inl (kf_aC G 0, 20, .inl (fun _ => 0))), (q5, .inl (kf_aC G 0, 10, .inl (fun _ => 0))), (q6, .inl (kf_aC G 0, 10, .inl (fun _ => 0))), (q7, .inl (kf_aC G 0, 10, .inl (fun _ => 0))), (q8, .inl (kf_aC G 0, 10, .inl (fun _ => 0)))] ++ [(q9, .inr (2, [.int 0, .ref (u10 0), .ref (u10 1)])), ((u10 0), .inl (kf_aC G 0, 401, .inl (fun _ => 0))), ((u10 1), .inl (kf_aC G 0, 20, .inl (fun _ => 0)))] ++ [(q11, .inr (2, [.int 0, .ref (u12 0), .ref (u12 1)])), ((u12 0), .inl (kf_aC G 0, 401, .inl (fun _ => 0))), ((u12 1), .inl (kf_aC G 0, 20, .inl (fun _ => 0)))] ++ [(q13, .inr (2, [.int 0, .ref (u14 0), .ref (u14 1)])), ((u14 0), .inl (kf_aC G 0, 401, .inl (fun _ => 0))), ((u14 1), .inl (kf_aC G 0, 20, .inl (fun _ => 0)))]) fl_X10_47 fpf_10_16 hname rfl rfl rfl (Nat.le_of_ble_eq_true rfl) rfl E d_X10_init_97 ?_
  refine kc_tl (tl' := kf_W (kc_GT G [h0, q1, q2, q3, q4, q5, q6, q7, q8, q9, (u10 0), (u10 1), q11, (u12 0), (u12 1), q13, (u14 0), (u14 1)]) kf_zero) rfl ?_
  refine wc_aload_n 0 rfl E d_X10_init_100 ?_
  refine wc_callP (G0 := kc_GT G [h0, q1, q2, q3, q4, q5, q6, q7, q8, q9, (u10 0), (u10 1), q11, (u12 0), (u12 1), q13, (u14 0), (u14 1)]) (k0 := 7) (As := []) (rest := []) ⟨rfl, rfl, rfl, rfl, rfl⟩ (fun hi => c_X10_clear (kf_wt_of kf_klT_ok hi) 7 rfl kf_zero kf_sT_ok) mv_X10_clear ml_X10_50 rfl rfl (Nat.le_of_ble_eq_true rfl) ⟨(Nat.le_of_ble_eq_true rfl), (Nat.le_of_ble_eq_true rfl)⟩ rfl (Nat.le_of_ble_eq_true rfl) E d_X10_init_101 ?_
  exact kc_vret (fun i => [q1, q2, q3, q4, q5, q6, q7, q8, q9, (u10 0), (u10 1), q11, (u12 0), (u12 1), q13, (u14 0), (u14 1)].getD i 0) rfl rfl E d_X10_init_104
