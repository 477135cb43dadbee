/-! ===== pure: count ===== -/
theorem kp_shl : ∀ i, i < 10 → ((1 : Int32) <<< (nI i &&& 31)) = nI (2 ^ i) := by decide +kernel
theorem kp_shl0 : ∀ i, i < 10 → ((0 : Int32) <<< (nI i &&& 31)) = 0 := by decide +kernel
theorem kp_sum_bs {G : Nat → Bool} {s : Nat → Int32} : ∀ n, n ≤ 10 → (∀ i, i < n → s i = if G i then (1 : Int32) <<< (nI i &&& 31) else 0) → l_sum s n = kp_bs G n
  | 0, _, _ => rfl
  | n + 1, h, hs => by
    show l_sum s n + s n = _
    rw [kp_sum_bs n (by omega) (fun i hi => hs i (by omega)), hs n (by omega)]
    by_cases e : G n = true
    · rw [if_pos e, kp_bs_t e, kp_bs_n G n (by omega), kp_or_all n (by omega) _ (kp_bn_lt G n), kp_shl n (by omega), nI_add]
    · rw [if_neg e, kp_bs_f e, Int32.add_zero]
theorem kp_sum_0 {s : Nat → Int32} {n : Nat} : ∀ m, (∀ i, n ≤ i → i < n + m → s i = 0) → l_sum s (n + m) = l_sum s n
  | 0, _ => rfl
  | m + 1, h => by
    show l_sum s (n + m) + s (n + m) = _
    rw [kp_sum_0 m (fun i a b => h i a (by omega)), h (n + m) (by omega) (by omega), Int32.add_zero]
theorem kp_bn_bt (K : Nat) : ∀ n, kp_bn (fun r => decide (kp_bt K r = 1)) n = K % 2 ^ n
  | 0 => by show 0 = K % 1; omega
  | n + 1 => by
    rw [kp_bn_s, kp_bn_bt K n, Nat.pow_succ, Nat.mod_mul]
    unfold kp_bt
    by_cases h : K / 2 ^ n % 2 = 1
    · rw [if_pos (decide_eq_true h), h, Nat.mul_one]
    · rw [if_neg (fun e => h (of_decide_eq_true e)), show K / 2 ^ n % 2 = 0 by omega, Nat.mul_zero, Nat.add_zero]
theorem kC_cod {A : kp_A} {k : Nat} (hA : kp_Aok A k) {σ : kf_St} (h : kp_Cr A σ) {w : Int32} {s : Nat → Int32} (hs : ∀ d, d < kt_nd (ka_T A) → f_X11_shareOfDoor 0 (nI d) w σ = some (s d, σ)) : f_X11_countOverDoors 0 w σ = some (if w = 4 then l_sum s (kt_nd (ka_T A)) else if w = 5 then l_sum s (kt_nd (ka_T A)) else if w = 6 then l_sum s (kt_nd (ka_T A)) else if w < 14 then -1 else if 16 < w then -1 else l_sum s (kt_nd (ka_T A)), σ) := by
  have h6 := hA.1.1.1
  unfold f_X11_countOverDoors
  refine kp_run (n := kt_nd (ka_T A)) (fun i f => f_X11_countOverDoors_4 f 0 w (l_sum s i) (nI i) σ = some (if w = 4 then l_sum s (kt_nd (ka_T A)) else if w = 5 then l_sum s (kt_nd (ka_T A)) else if w = 6 then l_sum s (kt_nd (ka_T A)) else if w < 14 then -1 else if 16 < w then -1 else l_sum s (kt_nd (ka_T A)), σ)) (by omega) (fun f => ?_) (fun i hi f ih => ?_)
  · show f_X11_countOverDoors_4_s _ 0 w _ (nI (kt_nd (ka_T A))) σ = _
    unfold f_X11_countOverDoors_4_s
    rw [kr0_1, h.1.1.1, if_pos (nI_le (Nat.le_refl _) (by omega))]
    by_cases w4 : w = 4
    · rw [if_pos w4, if_pos w4]
    rw [if_neg w4, if_neg w4]
    by_cases w5 : w = 5
    · rw [if_pos w5, if_pos w5]
    rw [if_neg w5, if_neg w5]
    by_cases w6 : w = 6
    · rw [if_pos w6, if_pos w6]
    rw [if_neg w6, if_neg w6]
    by_cases w7 : w < 14
    · rw [if_pos w7, if_pos w7]
    rw [if_neg w7, if_neg w7]
    by_cases w8 : 16 < w
    · rw [if_pos w8, if_pos w8]
    rw [if_neg w8, if_neg w8]
  · show f_X11_countOverDoors_4_s _ 0 w _ (nI i) σ = _
    unfold f_X11_countOverDoors_4_s
    rw [kr0_1, h.1.1.1, if_neg (nI_ge hi (by omega)), hs i hi, Option.bind_some]
    simp only [kf_lt]
    rw [nI_1]
    exact ih
theorem kM_sum {A : kp_A} {σ : kf_St} {b : Nat} {s : Nat → Int32} (hb : b ≤ 42) (hs : ∀ d, d < 6 → σ.1 111 (b + d) = s d) : f_X12_sumNow 77 (nI b) 6 σ = some (l_sum s 6, σ) := by
  unfold f_X12_sumNow
  refine kp_run (n := 6) (fun i f => f_X12_sumNow_5 f 77 (nI b) 6 (l_sum s i) (nI (b + i)) σ = some (l_sum s 6, σ)) (by omega) (fun f => ?_) (fun i hi f ih => ?_)
  · show f_X12_sumNow_5_s _ 77 (nI b) 6 _ (nI (b + 6)) σ = _
    unfold f_X12_sumNow_5_s
    simp (disch := omega) only [↓reduceIte, kz_lt, Option.bind_some, kz_ix, kz_leT, kz_leF, kz_ltT, kz_ltF, kz_lt0, kz_0le, kz_0ltT, kz_le0F, kz_eq0F, kz_10, kz_00, kz_11, kz_01, nI_clamp, nI_1, nI_add, pk_mul, kn3, kn4, kn5, kn6, kn7, kn8, kn9, kn10, kn16, kn20, kn24, kn30, kn32, kn36, kn40, kn41, kn42, kn48, kn54, kn60, kn61, kn64, kn69, kn70, kn99, kn100, kc0, kc1, kc2, kc3, kc4, kc5, kc6, kc7, kc8, kc9, kc10, kx0, kx1, kx2, kx3, kx4, kx5, kx6, kx7, kx8, kr77_1, kr77_3, kr77_5, kr77_6, kr77_7, kr77_8, kr77_9, kr77_21, kr77_22, kr77_23, kr77_24, kr77_25, kr77_26, kr77_27, kr77_28, kr77_29, kr77_30, kr77_31, kr77_32, kr77_33, kr77_34, kr77_35, kr77_36, kr77_38, kr77_39, kr77_40, kr77_41, kr77_42, kr77_44, kr77_45, kr77_46, kr77_48, kr77_49, kr77_51, kr77_52, kr77_55, kr77_57, kr77_58, kr77_59, kr77_61, kr77_62, kr77_63, kr77_64, kr77_65, kl78, kl79, kl80, kl81, kl82, kl83, kl84, kl85, kl86, kl87, kl88, kl89, kl90, kl91, kl92, kl93, kl94, kl95, kl96, kl97, kl98, kl99, kl100, kl101, kl102, kl103, kl104, kl105, kl106, kl107, kl108, kl109, kl110, kl111, kl112, kl113, kl114, kl115, kl116, kl117, kl118, kl119, kl120, kl121]
  · show f_X12_sumNow_5_s _ 77 (nI b) 6 _ (nI (b + i)) σ = _
    unfold f_X12_sumNow_5_s
    simp (disch := omega) only [↓reduceIte, kz_lt, Option.bind_some, kz_ix, kz_leT, kz_leF, kz_ltT, kz_ltF, kz_lt0, kz_0le, kz_0ltT, kz_le0F, kz_eq0F, kz_10, kz_00, kz_11, kz_01, nI_clamp, nI_1, nI_add, pk_mul, kn3, kn4, kn5, kn6, kn7, kn8, kn9, kn10, kn16, kn20, kn24, kn30, kn32, kn36, kn40, kn41, kn42, kn48, kn54, kn60, kn61, kn64, kn69, kn70, kn99, kn100, kc0, kc1, kc2, kc3, kc4, kc5, kc6, kc7, kc8, kc9, kc10, kx0, kx1, kx2, kx3, kx4, kx5, kx6, kx7, kx8, kr77_1, kr77_3, kr77_5, kr77_6, kr77_7, kr77_8, kr77_9, kr77_21, kr77_22, kr77_23, kr77_24, kr77_25, kr77_26, kr77_27, kr77_28, kr77_29, kr77_30, kr77_31, kr77_32, kr77_33, kr77_34, kr77_35, kr77_36, kr77_38, kr77_39, kr77_40, kr77_41, kr77_42, kr77_44, kr77_45, kr77_46, kr77_48, kr77_49, kr77_51, kr77_52, kr77_55, kr77_57, kr77_58, kr77_59, kr77_61, kr77_62, kr77_63, kr77_64, kr77_65, kl78, kl79, kl80, kl81, kl82, kl83, kl84, kl85, kl86, kl87, kl88, kl89, kl90, kl91, kl92, kl93, kl94, kl95, kl96, kl97, kl98, kl99, kl100, kl101, kl102, kl103, kl104, kl105, kl106, kl107, kl108, kl109, kl110, kl111, kl112, kl113, kl114, kl115, kl116, kl117, kl118, kl119, kl120, kl121, hs i hi]
    exact ih
theorem kM_c128 {A : kp_A} {k lv : Nat} (hA : kp_Aok A k) {σ : kf_St} (h : kp_MT (ka_T A) lv σ) (hS : kp_fS (σ.1 112) (ka_S A)) (G : Nat → Bool) (hG : ∀ d, d < kt_nd (ka_T A) → (G d = true ↔ ¬ kp_kn (ka_T A) ((ka_S A).1 d).1 < 0)) : f_X12_count_128 kf_F 77 0 0 σ = some (kp_bs G (kt_nd (ka_T A)), σ) := by
  have h6 := hA.1.1.1
  have hl := h.1
  refine kp_run (n := kt_nd (ka_T A)) (fun i f => f_X12_count_128 f 77 (kp_bs G i) (nI i) σ = some (kp_bs G (kt_nd (ka_T A)), σ)) (by omega) (fun f => ?_) (fun i hi f ih => ?_)
  · show f_X12_count_128_s _ 77 _ (nI (kt_nd (ka_T A))) σ = _
    unfold f_X12_count_128_s
    simp (disch := omega) only [↓reduceIte, kz_lt, Option.bind_some, kz_ix, kz_leT, kz_leF, kz_ltT, kz_ltF, kz_lt0, kz_0le, kz_0ltT, kz_le0F, kz_eq0F, kz_10, kz_00, kz_11, kz_01, nI_clamp, nI_1, nI_add, pk_mul, kc0, kc1, kc2, kc3, kc4, kc5, kc6, kc7, kc8, kc9, kc10, kx0, kx1, kx2, kx3, kx4, kx5, kx6, kx7, kx8, kr77_1, kr77_3, kr77_5, kr77_6, kr77_7, kr77_8, kr77_9, kr77_21, kr77_22, kr77_23, kr77_24, kr77_25, kr77_26, kr77_27, kr77_28, kr77_29, kr77_30, kr77_31, kr77_32, kr77_33, kr77_34, kr77_35, kr77_36, kr77_38, kr77_39, kr77_40, kr77_41, kr77_42, kr77_44, kr77_45, kr77_46, kr77_48, kr77_49, kr77_51, kr77_52, kr77_55, kr77_57, kr77_58, kr77_59, kr77_61, kr77_62, kr77_63, kr77_64, kr77_65, kl78, kl79, kl80, kl81, kl82, kl83, kl84, kl85, kl86, kl87, kl88, kl89, kl90, kl91, kl92, kl93, kl94, kl95, kl96, kl97, kl98, kl99, kl100, kl101, kl102, kl103, kl104, kl105, kl106, kl107, kl108, kl109, kl110, kl111, kl112, kl113, kl114, kl115, kl116, kl117, kl118, kl119, kl120, kl121, h.2.1, h.2.2.1.1]
  · show f_X12_count_128_s _ 77 _ (nI i) σ = _
    unfold f_X12_count_128_s f_X12_count_155
    simp (disch := omega) only [↓reduceIte, kz_lt, Option.bind_some, kz_ix, kz_leT, kz_leF, kz_ltT, kz_ltF, kz_lt0, kz_0le, kz_0ltT, kz_le0F, kz_eq0F, kz_10, kz_00, kz_11, kz_01, nI_clamp, nI_1, nI_add, pk_mul, kc0, kc1, kc2, kc3, kc4, kc5, kc6, kc7, kc8, kc9, kc10, kx0, kx1, kx2, kx3, kx4, kx5, kx6, kx7, kx8, kr77_1, kr77_3, kr77_5, kr77_6, kr77_7, kr77_8, kr77_9, kr77_21, kr77_22, kr77_23, kr77_24, kr77_25, kr77_26, kr77_27, kr77_28, kr77_29, kr77_30, kr77_31, kr77_32, kr77_33, kr77_34, kr77_35, kr77_36, kr77_38, kr77_39, kr77_40, kr77_41, kr77_42, kr77_44, kr77_45, kr77_46, kr77_48, kr77_49, kr77_51, kr77_52, kr77_55, kr77_57, kr77_58, kr77_59, kr77_61, kr77_62, kr77_63, kr77_64, kr77_65, kl78, kl79, kl80, kl81, kl82, kl83, kl84, kl85, kl86, kl87, kl88, kl89, kl90, kl91, kl92, kl93, kl94, kl95, kl96, kl97, kl98, kl99, kl100, kl101, kl102, kl103, kl104, kl105, kl106, kl107, kl108, kl109, kl110, kl111, kl112, kl113, kl114, kl115, kl116, kl117, kl118, kl119, kl120, kl121, h.2.1, h.2.2.1.1, kM_knF hA.1 h hS (show i < 6 by omega)]
    by_cases b : kp_kn (ka_T A) ((ka_S A).1 i).1 < 0
    · rw [kp_bs_f (fun e => (hG i hi).mp e b)] at ih
      rw [if_pos b]; exact ih
    · rw [kp_bs_t ((hG i hi).mpr b)] at ih
      rw [if_neg b]; exact ih
theorem kM_c337 {A : kp_A} {k lv : Nat} (hA : kp_Aok A k) {σ : kf_St} (h : kp_MT (ka_T A) lv σ) (hS : kp_fS (σ.1 112) (ka_S A)) (G : Nat → Bool) (hG : ∀ d, d < kt_nd (ka_T A) → (G d = true ↔ kp_un ((ka_S A).1 d).1 (kt_fi (ka_T A) d) = 0)) : f_X12_count_337 kf_F 77 0 0 σ = some (kp_bs G (kt_nd (ka_T A)), σ) := by
  have h6 := hA.1.1.1
  have hl := h.1
  refine kp_run (n := kt_nd (ka_T A)) (fun i f => f_X12_count_337 f 77 (kp_bs G i) (nI i) σ = some (kp_bs G (kt_nd (ka_T A)), σ)) (by omega) (fun f => ?_) (fun i hi f ih => ?_)
  · show f_X12_count_337_s _ 77 _ (nI (kt_nd (ka_T A))) σ = _
    unfold f_X12_count_337_s
    simp (disch := omega) only [↓reduceIte, kz_lt, Option.bind_some, kz_ix, kz_leT, kz_leF, kz_ltT, kz_ltF, kz_lt0, kz_0le, kz_0ltT, kz_le0F, kz_eq0F, kz_10, kz_00, kz_11, kz_01, nI_clamp, nI_1, nI_add, pk_mul, kc0, kc1, kc2, kc3, kc4, kc5, kc6, kc7, kc8, kc9, kc10, kx0, kx1, kx2, kx3, kx4, kx5, kx6, kx7, kx8, kr77_1, kr77_3, kr77_5, kr77_6, kr77_7, kr77_8, kr77_9, kr77_21, kr77_22, kr77_23, kr77_24, kr77_25, kr77_26, kr77_27, kr77_28, kr77_29, kr77_30, kr77_31, kr77_32, kr77_33, kr77_34, kr77_35, kr77_36, kr77_38, kr77_39, kr77_40, kr77_41, kr77_42, kr77_44, kr77_45, kr77_46, kr77_48, kr77_49, kr77_51, kr77_52, kr77_55, kr77_57, kr77_58, kr77_59, kr77_61, kr77_62, kr77_63, kr77_64, kr77_65, kl78, kl79, kl80, kl81, kl82, kl83, kl84, kl85, kl86, kl87, kl88, kl89, kl90, kl91, kl92, kl93, kl94, kl95, kl96, kl97, kl98, kl99, kl100, kl101, kl102, kl103, kl104, kl105, kl106, kl107, kl108, kl109, kl110, kl111, kl112, kl113, kl114, kl115, kl116, kl117, kl118, kl119, kl120, kl121, h.2.1, h.2.2.1.1]
  · show f_X12_count_337_s _ 77 _ (nI i) σ = _
    unfold f_X12_count_337_s f_X12_count_364
    simp (disch := omega) only [↓reduceIte, kz_lt, Option.bind_some, kz_ix, kz_leT, kz_leF, kz_ltT, kz_ltF, kz_lt0, kz_0le, kz_0ltT, kz_le0F, kz_eq0F, kz_10, kz_00, kz_11, kz_01, nI_clamp, nI_1, nI_add, pk_mul, kc0, kc1, kc2, kc3, kc4, kc5, kc6, kc7, kc8, kc9, kc10, kx0, kx1, kx2, kx3, kx4, kx5, kx6, kx7, kx8, kr77_1, kr77_3, kr77_5, kr77_6, kr77_7, kr77_8, kr77_9, kr77_21, kr77_22, kr77_23, kr77_24, kr77_25, kr77_26, kr77_27, kr77_28, kr77_29, kr77_30, kr77_31, kr77_32, kr77_33, kr77_34, kr77_35, kr77_36, kr77_38, kr77_39, kr77_40, kr77_41, kr77_42, kr77_44, kr77_45, kr77_46, kr77_48, kr77_49, kr77_51, kr77_52, kr77_55, kr77_57, kr77_58, kr77_59, kr77_61, kr77_62, kr77_63, kr77_64, kr77_65, kl78, kl79, kl80, kl81, kl82, kl83, kl84, kl85, kl86, kl87, kl88, kl89, kl90, kl91, kl92, kl93, kl94, kl95, kl96, kl97, kl98, kl99, kl100, kl101, kl102, kl103, kl104, kl105, kl106, kl107, kl108, kl109, kl110, kl111, kl112, kl113, kl114, kl115, kl116, kl117, kl118, kl119, kl120, kl121, h.2.1, h.2.2.1.1, kM_ofF hA.1 h hS hi]
    by_cases b : kp_un ((ka_S A).1 i).1 (kt_fi (ka_T A) i) = 0
    · rw [kp_bs_t ((hG i hi).mpr b)] at ih
      rw [if_pos b]; exact ih
    · rw [kp_bs_f (fun e => b ((hG i hi).mp e))] at ih
      rw [if_neg b]; exact ih
theorem kM_c374 {A : kp_A} {k lv : Nat} (hA : kp_Aok A k) {σ : kf_St} (h : kp_MT (ka_T A) lv σ) (hS : kp_fS (σ.1 112) (ka_S A)) (G : Nat → Bool) (hG : ∀ d, d < kt_nd (ka_T A) → (G d = true ↔ ¬ ((ka_S A).1 d).2.2.1 ≤ 0)) : f_X12_count_374 kf_F 77 0 0 σ = some (kp_bs G (kt_nd (ka_T A)), σ) := by
  have h6 := hA.1.1.1
  have hl := h.1
  refine kp_run (n := kt_nd (ka_T A)) (fun i f => f_X12_count_374 f 77 (kp_bs G i) (nI i) σ = some (kp_bs G (kt_nd (ka_T A)), σ)) (by omega) (fun f => ?_) (fun i hi f ih => ?_)
  · show f_X12_count_374_s _ 77 _ (nI (kt_nd (ka_T A))) σ = _
    unfold f_X12_count_374_s
    simp (disch := omega) only [↓reduceIte, kz_lt, Option.bind_some, kz_ix, kz_leT, kz_leF, kz_ltT, kz_ltF, kz_lt0, kz_0le, kz_0ltT, kz_le0F, kz_eq0F, kz_10, kz_00, kz_11, kz_01, nI_clamp, nI_1, nI_add, pk_mul, kc0, kc1, kc2, kc3, kc4, kc5, kc6, kc7, kc8, kc9, kc10, kx0, kx1, kx2, kx3, kx4, kx5, kx6, kx7, kx8, kr77_1, kr77_3, kr77_5, kr77_6, kr77_7, kr77_8, kr77_9, kr77_21, kr77_22, kr77_23, kr77_24, kr77_25, kr77_26, kr77_27, kr77_28, kr77_29, kr77_30, kr77_31, kr77_32, kr77_33, kr77_34, kr77_35, kr77_36, kr77_38, kr77_39, kr77_40, kr77_41, kr77_42, kr77_44, kr77_45, kr77_46, kr77_48, kr77_49, kr77_51, kr77_52, kr77_55, kr77_57, kr77_58, kr77_59, kr77_61, kr77_62, kr77_63, kr77_64, kr77_65, kl78, kl79, kl80, kl81, kl82, kl83, kl84, kl85, kl86, kl87, kl88, kl89, kl90, kl91, kl92, kl93, kl94, kl95, kl96, kl97, kl98, kl99, kl100, kl101, kl102, kl103, kl104, kl105, kl106, kl107, kl108, kl109, kl110, kl111, kl112, kl113, kl114, kl115, kl116, kl117, kl118, kl119, kl120, kl121, h.2.1, h.2.2.1.1]
  · show f_X12_count_374_s _ 77 _ (nI i) σ = _
    unfold f_X12_count_374_s f_X12_count_405
    simp (disch := omega) only [↓reduceIte, kz_lt, Option.bind_some, kz_ix, kz_leT, kz_leF, kz_ltT, kz_ltF, kz_lt0, kz_0le, kz_0ltT, kz_le0F, kz_eq0F, kz_10, kz_00, kz_11, kz_01, nI_clamp, nI_1, nI_add, pk_mul, kc0, kc1, kc2, kc3, kc4, kc5, kc6, kc7, kc8, kc9, kc10, kx0, kx1, kx2, kx3, kx4, kx5, kx6, kx7, kx8, kr77_1, kr77_3, kr77_5, kr77_6, kr77_7, kr77_8, kr77_9, kr77_21, kr77_22, kr77_23, kr77_24, kr77_25, kr77_26, kr77_27, kr77_28, kr77_29, kr77_30, kr77_31, kr77_32, kr77_33, kr77_34, kr77_35, kr77_36, kr77_38, kr77_39, kr77_40, kr77_41, kr77_42, kr77_44, kr77_45, kr77_46, kr77_48, kr77_49, kr77_51, kr77_52, kr77_55, kr77_57, kr77_58, kr77_59, kr77_61, kr77_62, kr77_63, kr77_64, kr77_65, kl78, kl79, kl80, kl81, kl82, kl83, kl84, kl85, kl86, kl87, kl88, kl89, kl90, kl91, kl92, kl93, kl94, kl95, kl96, kl97, kl98, kl99, kl100, kl101, kl102, kl103, kl104, kl105, kl106, kl107, kl108, kl109, kl110, kl111, kl112, kl113, kl114, kl115, kl116, kl117, kl118, kl119, kl120, kl121, h.2.1, h.2.2.1.1, kn30, (kp_fD_f (hS.1 i (show i < 6 by omega))).2.2.1]
    by_cases b : ((ka_S A).1 i).2.2.1 ≤ 0
    · rw [kp_bs_f (fun e => (hG i hi).mp e b)] at ih
      rw [if_pos b]; exact ih
    · rw [kp_bs_t ((hG i hi).mpr b)] at ih
      rw [if_neg b]; exact ih
theorem kM_c183 {A : kp_A} {k lv : Nat} (hA : kp_Aok A k) {σ : kf_St} (h : kp_MT (ka_T A) lv σ) (hS : kp_fS (σ.1 112) (ka_S A)) : f_X12_count_183 kf_F 77 0 0 σ = some (nI (ka_S A).2.2.1, σ) := by
  have h10 := hA.1.1.2.2
  have hl := h.1
  have fin : kp_bs (fun r => decide (kp_bt (ka_S A).2.2.1 r = 1)) (kt_nr (ka_T A)) = nI (ka_S A).2.2.1 := by
    rw [kp_bs_n _ _ h10, kp_bn_bt, Nat.mod_eq_of_lt hA.2.1.2.2.1]
  refine kp_run (n := kt_nr (ka_T A)) (fun i f => f_X12_count_183 f 77 (kp_bs (fun r => decide (kp_bt (ka_S A).2.2.1 r = 1)) i) (nI i) σ = some (nI (ka_S A).2.2.1, σ)) (by omega) (fun f => ?_) (fun i hi f ih => ?_)
  · show f_X12_count_183_s _ 77 _ (nI (kt_nr (ka_T A))) σ = _
    unfold f_X12_count_183_s
    simp (disch := omega) only [↓reduceIte, kz_lt, Option.bind_some, kz_ix, kz_leT, kz_leF, kz_ltT, kz_ltF, kz_lt0, kz_0le, kz_0ltT, kz_le0F, kz_eq0F, kz_10, kz_00, kz_11, kz_01, nI_clamp, nI_1, nI_add, pk_mul, kc0, kc1, kc2, kc3, kc4, kc5, kc6, kc7, kc8, kc9, kc10, kx0, kx1, kx2, kx3, kx4, kx5, kx6, kx7, kx8, kr77_1, kr77_3, kr77_5, kr77_6, kr77_7, kr77_8, kr77_9, kr77_21, kr77_22, kr77_23, kr77_24, kr77_25, kr77_26, kr77_27, kr77_28, kr77_29, kr77_30, kr77_31, kr77_32, kr77_33, kr77_34, kr77_35, kr77_36, kr77_38, kr77_39, kr77_40, kr77_41, kr77_42, kr77_44, kr77_45, kr77_46, kr77_48, kr77_49, kr77_51, kr77_52, kr77_55, kr77_57, kr77_58, kr77_59, kr77_61, kr77_62, kr77_63, kr77_64, kr77_65, kl78, kl79, kl80, kl81, kl82, kl83, kl84, kl85, kl86, kl87, kl88, kl89, kl90, kl91, kl92, kl93, kl94, kl95, kl96, kl97, kl98, kl99, kl100, kl101, kl102, kl103, kl104, kl105, kl106, kl107, kl108, kl109, kl110, kl111, kl112, kl113, kl114, kl115, kl116, kl117, kl118, kl119, kl120, kl121, h.2.1, h.2.2.1.2.2, fin]
  · show f_X12_count_183_s _ 77 _ (nI i) σ = _
    unfold f_X12_count_183_s
    simp (disch := omega) only [↓reduceIte, kz_lt, Option.bind_some, kz_ix, kz_leT, kz_leF, kz_ltT, kz_ltF, kz_lt0, kz_0le, kz_0ltT, kz_le0F, kz_eq0F, kz_10, kz_00, kz_11, kz_01, nI_clamp, nI_1, nI_add, pk_mul, kc0, kc1, kc2, kc3, kc4, kc5, kc6, kc7, kc8, kc9, kc10, kx0, kx1, kx2, kx3, kx4, kx5, kx6, kx7, kx8, kr77_1, kr77_3, kr77_5, kr77_6, kr77_7, kr77_8, kr77_9, kr77_21, kr77_22, kr77_23, kr77_24, kr77_25, kr77_26, kr77_27, kr77_28, kr77_29, kr77_30, kr77_31, kr77_32, kr77_33, kr77_34, kr77_35, kr77_36, kr77_38, kr77_39, kr77_40, kr77_41, kr77_42, kr77_44, kr77_45, kr77_46, kr77_48, kr77_49, kr77_51, kr77_52, kr77_55, kr77_57, kr77_58, kr77_59, kr77_61, kr77_62, kr77_63, kr77_64, kr77_65, kl78, kl79, kl80, kl81, kl82, kl83, kl84, kl85, kl86, kl87, kl88, kl89, kl90, kl91, kl92, kl93, kl94, kl95, kl96, kl97, kl98, kl99, kl100, kl101, kl102, kl103, kl104, kl105, kl106, kl107, kl108, kl109, kl110, kl111, kl112, kl113, kl114, kl115, kl116, kl117, kl118, kl119, kl120, kl121, h.2.1, h.2.2.1.2.2, kn54, hS.2.2.1 i (show i < 10 by omega)]
    have b2 : kp_bt (ka_S A).2.2.1 i < 2 := Nat.mod_lt _ (by decide)
    by_cases b : kp_bt (ka_S A).2.2.1 i = 1
    · rw [kp_bs_t (decide_eq_true b)] at ih
      rw [b]; exact ih
    · rw [kp_bs_f (fun e => b (of_decide_eq_true e))] at ih
      rw [show kp_bt (ka_S A).2.2.1 i = 0 by omega, show (nI 0) <<< (nI i &&& 31) = 0 from kp_shl0 i (by omega), Int32.or_zero]; exact ih
/-! callers by whom a door is known -/
def kp_ck (u : Nat → Int32) : Nat → Int32
  | 0 => 0
  | i + 1 => if u i < 0 then kp_ck u i else kp_ck u i ||| ((1 : Int32) <<< (u i &&& 31))
theorem kp_ck_s (u : Nat → Int32) (i : Nat) : kp_ck u (i + 1) = if u i < 0 then kp_ck u i else kp_ck u i ||| ((1 : Int32) <<< (u i &&& 31)) := rfl
theorem kp_ck_all : ∀ j, j < 5 → ∀ a, a < 32 → nI a ||| ((1 : Int32) <<< (nI j &&& 31)) = nI (if a / 2 ^ j % 2 = 1 then a else a + 2 ^ j) ∧ (if a / 2 ^ j % 2 = 1 then a else a + 2 ^ j) < 32 := by decide +kernel
theorem kp_ck_n (u : Nat → Int32) : ∀ n, (∀ i, i < n → u i = -2 ∨ ∃ j, j < 5 ∧ u i = nI j) → ∃ a, a < 32 ∧ kp_ck u n = nI a
  | 0, _ => ⟨0, by decide, rfl⟩
  | n + 1, h => by
    obtain ⟨a, ha, e⟩ := kp_ck_n u n (fun i hi => h i (by omega))
    rw [kp_ck_s]
    rcases h n (by omega) with q | ⟨j, hj, q⟩
    · rw [q, if_pos kp_m2]; exact ⟨a, ha, e⟩
    · rw [q, if_neg (nI_pos (by omega)), e]
      exact ⟨_, (kp_ck_all j hj a ha).2, (kp_ck_all j hj a ha).1⟩
theorem kC_ck {A : kp_A} {k : Nat} (hA : kp_Aok A k) {σ : kf_St} (h : kp_Cr A σ) {u : Nat → Int32} (hu : ∀ d, u d = kp_kn (ka_T A) ((ka_S A).1 d).1) : f_X11_callersKnown 0 σ = some (kp_ck u (kt_nd (ka_T A)), σ) := by
  have h6 := hA.1.1.1
  unfold f_X11_callersKnown
  refine kp_run (n := kt_nd (ka_T A)) (fun i f => f_X11_callersKnown_4 f 0 (kp_ck u i) (nI i) σ = some (kp_ck u (kt_nd (ka_T A)), σ)) (by omega) (fun f => ?_) (fun i hi f ih => ?_)
  · show f_X11_callersKnown_4_s _ 0 _ (nI (kt_nd (ka_T A))) σ = _
    unfold f_X11_callersKnown_4_s
    simp (disch := omega) only [↓reduceIte, kz_lt, Option.bind_some, kz_ix, kz_leT, kz_leF, kz_ltT, kz_ltF, kz_lt0, kz_0le, kz_0ltT, kz_le0F, kz_eq0F, kz_10, kz_00, kz_11, kz_01, nI_clamp, nI_1, nI_add, pk_mul, kc0, kc1, kc2, kc3, kc4, kc5, kc6, kc7, kc8, kc9, kc10, kx0, kx1, kx2, kx3, kx4, kx5, kx6, kx7, kx8, kr0_0, kr0_1, kr0_2, kr0_3, kr0_4, kr0_5, kr0_6, kr0_7, kr0_8, kr0_9, kr1_1, kr1_2, kr1_3, kr1_4, kr1_5, kr7_6, kr7_7, kr7_8, kr7_9, kr7_10, kr7_11, kr7_12, kr7_13, kr7_14, kr7_15, kr7_16, kr16_1, kr16_2, kr19_1, kr19_2, kr22_1, kr22_2, kr25_6, kr25_7, kr25_8, kr25_9, kr25_10, kr25_11, kr25_12, kr25_13, kr25_14, kr25_15, kr25_16, kr34_1, kr34_2, kr37_1, kr37_2, kr40_1, kr40_2, kr43_2, kr43_3, kr44_0, kr44_1, kr44_4, kr46_0, kr48_0, kr50_0, kr52_0, kr54_0, kr56_0, kr60_3, kr60_4, kr63_0, kr63_1, kr63_2, kr66_0, kr66_1, kr66_2, kr66_3, kr66_4, kr67_0, kr70_0, kr70_1, kr70_2, kr72_1, kr72_2, kr72_3, kr72_4, kr72_5, kr72_6, kr72_7, kl2, kl3, kl4, kl5, kl6, kl8, kl9, kl10, kl11, kl12, kl13, kl14, kl15, kl17, kl18, kl20, kl21, kl23, kl24, kl26, kl27, kl28, kl29, kl30, kl31, kl32, kl33, kl35, kl36, kl38, kl39, kl41, kl42, kl45, kl47, kl49, kl51, kl53, kl55, kl57, kl58, kl59, kl61, kl62, kl64, kl65, kl68, kl69, kl71, kl73, kl74, kl75, kl76, h.1.1.1]
  · show f_X11_callersKnown_4_s _ 0 _ (nI i) σ = _
    unfold f_X11_callersKnown_4_s f_X11_callersKnown_45
    simp (disch := omega) only [↓reduceIte, kz_lt, Option.bind_some, kz_ix, kz_leT, kz_leF, kz_ltT, kz_ltF, kz_lt0, kz_0le, kz_0ltT, kz_le0F, kz_eq0F, kz_10, kz_00, kz_11, kz_01, nI_clamp, nI_1, nI_add, pk_mul, kc0, kc1, kc2, kc3, kc4, kc5, kc6, kc7, kc8, kc9, kc10, kx0, kx1, kx2, kx3, kx4, kx5, kx6, kx7, kx8, kr0_0, kr0_1, kr0_2, kr0_3, kr0_4, kr0_5, kr0_6, kr0_7, kr0_8, kr0_9, kr1_1, kr1_2, kr1_3, kr1_4, kr1_5, kr7_6, kr7_7, kr7_8, kr7_9, kr7_10, kr7_11, kr7_12, kr7_13, kr7_14, kr7_15, kr7_16, kr16_1, kr16_2, kr19_1, kr19_2, kr22_1, kr22_2, kr25_6, kr25_7, kr25_8, kr25_9, kr25_10, kr25_11, kr25_12, kr25_13, kr25_14, kr25_15, kr25_16, kr34_1, kr34_2, kr37_1, kr37_2, kr40_1, kr40_2, kr43_2, kr43_3, kr44_0, kr44_1, kr44_4, kr46_0, kr48_0, kr50_0, kr52_0, kr54_0, kr56_0, kr60_3, kr60_4, kr63_0, kr63_1, kr63_2, kr66_0, kr66_1, kr66_2, kr66_3, kr66_4, kr67_0, kr70_0, kr70_1, kr70_2, kr72_1, kr72_2, kr72_3, kr72_4, kr72_5, kr72_6, kr72_7, kl2, kl3, kl4, kl5, kl6, kl8, kl9, kl10, kl11, kl12, kl13, kl14, kl15, kl17, kl18, kl20, kl21, kl23, kl24, kl26, kl27, kl28, kl29, kl30, kl31, kl32, kl33, kl35, kl36, kl38, kl39, kl41, kl42, kl45, kl47, kl49, kl51, kl53, kl55, kl57, kl58, kl59, kl61, kl62, kl64, kl65, kl68, kl69, kl71, kl73, kl74, kl75, kl76, h.1.1.1, kz_rf45, kz_rfK, kC_kn hA h hi]
    rw [← hu i]
    rw [kp_ck_s] at ih
    by_cases b : u i < 0
    · rw [if_pos b] at ih ⊢; exact ih
    · rw [if_neg b] at ih ⊢; exact ih
theorem kM_ck {A : kp_A} {k lv : Nat} (hA : kp_Aok A k) {σ : kf_St} (h : kp_MT (ka_T A) lv σ) (hS : kp_fS (σ.1 112) (ka_S A)) {u : Nat → Int32} (hu : ∀ d, u d = kp_kn (ka_T A) ((ka_S A).1 d).1) : f_X12_count_293 kf_F 77 0 0 σ = some (kp_pc (kp_ck u (kt_nd (ka_T A))), σ) := by
  have h6 := hA.1.1.1
  have hl := h.1
  refine kp_run (n := kt_nd (ka_T A)) (fun i f => f_X12_count_293 f 77 (kp_ck u i) (nI i) σ = some (kp_pc (kp_ck u (kt_nd (ka_T A))), σ)) (by omega) (fun f => ?_) (fun i hi f ih => ?_)
  · show f_X12_count_293_s _ 77 _ (nI (kt_nd (ka_T A))) σ = _
    unfold f_X12_count_293_s
    simp (disch := omega) only [↓reduceIte, kz_lt, Option.bind_some, kz_ix, kz_leT, kz_leF, kz_ltT, kz_ltF, kz_lt0, kz_0le, kz_0ltT, kz_le0F, kz_eq0F, kz_10, kz_00, kz_11, kz_01, nI_clamp, nI_1, nI_add, pk_mul, kc0, kc1, kc2, kc3, kc4, kc5, kc6, kc7, kc8, kc9, kc10, kx0, kx1, kx2, kx3, kx4, kx5, kx6, kx7, kx8, kr77_1, kr77_3, kr77_5, kr77_6, kr77_7, kr77_8, kr77_9, kr77_21, kr77_22, kr77_23, kr77_24, kr77_25, kr77_26, kr77_27, kr77_28, kr77_29, kr77_30, kr77_31, kr77_32, kr77_33, kr77_34, kr77_35, kr77_36, kr77_38, kr77_39, kr77_40, kr77_41, kr77_42, kr77_44, kr77_45, kr77_46, kr77_48, kr77_49, kr77_51, kr77_52, kr77_55, kr77_57, kr77_58, kr77_59, kr77_61, kr77_62, kr77_63, kr77_64, kr77_65, kl78, kl79, kl80, kl81, kl82, kl83, kl84, kl85, kl86, kl87, kl88, kl89, kl90, kl91, kl92, kl93, kl94, kl95, kl96, kl97, kl98, kl99, kl100, kl101, kl102, kl103, kl104, kl105, kl106, kl107, kl108, kl109, kl110, kl111, kl112, kl113, kl114, kl115, kl116, kl117, kl118, kl119, kl120, kl121, h.2.1, h.2.2.1.1, kM_bits]
  · show f_X12_count_293_s _ 77 _ (nI i) σ = _
    unfold f_X12_count_293_s f_X12_count_324
    simp (disch := omega) only [↓reduceIte, kz_lt, Option.bind_some, kz_ix, kz_leT, kz_leF, kz_ltT, kz_ltF, kz_lt0, kz_0le, kz_0ltT, kz_le0F, kz_eq0F, kz_10, kz_00, kz_11, kz_01, nI_clamp, nI_1, nI_add, pk_mul, kc0, kc1, kc2, kc3, kc4, kc5, kc6, kc7, kc8, kc9, kc10, kx0, kx1, kx2, kx3, kx4, kx5, kx6, kx7, kx8, kr77_1, kr77_3, kr77_5, kr77_6, kr77_7, kr77_8, kr77_9, kr77_21, kr77_22, kr77_23, kr77_24, kr77_25, kr77_26, kr77_27, kr77_28, kr77_29, kr77_30, kr77_31, kr77_32, kr77_33, kr77_34, kr77_35, kr77_36, kr77_38, kr77_39, kr77_40, kr77_41, kr77_42, kr77_44, kr77_45, kr77_46, kr77_48, kr77_49, kr77_51, kr77_52, kr77_55, kr77_57, kr77_58, kr77_59, kr77_61, kr77_62, kr77_63, kr77_64, kr77_65, kl78, kl79, kl80, kl81, kl82, kl83, kl84, kl85, kl86, kl87, kl88, kl89, kl90, kl91, kl92, kl93, kl94, kl95, kl96, kl97, kl98, kl99, kl100, kl101, kl102, kl103, kl104, kl105, kl106, kl107, kl108, kl109, kl110, kl111, kl112, kl113, kl114, kl115, kl116, kl117, kl118, kl119, kl120, kl121, h.2.1, h.2.2.1.1, kM_knF hA.1 h hS (show i < 6 by omega)]
    rw [← hu i]
    rw [kp_ck_s] at ih
    by_cases b : u i < 0
    · rw [if_pos b] at ih ⊢; exact ih
    · rw [if_neg b] at ih ⊢; exact ih
theorem kp_bc8 : ∀ b, b < 8 → kp_bc (nI b) = nI (kp_bt b 0) + nI (kp_bt b 1) + nI (kp_bt b 2) := by decide +kernel
def kp_q (Q : Nat → Option kp_S) (s : Nat) : Int32 := if (Q s).isNone then 0 else 1
theorem kC_q {σ : kf_St} {nd : Nat} {Q : Nat → Option kp_S} (h : kp_QC σ nd Q) : kp_bc (σ.1 60 1) = kp_q Q 0 + kp_q Q 1 + kp_q Q 2 := by
  obtain ⟨b, hb, e, hq⟩ := h
  have one : ∀ s, s < 3 → nI (kp_bt b s) = kp_q Q s := fun s hs => by
    unfold kp_q
    rcases hq s hs with ⟨e1, e2⟩ | ⟨S, e1, e2, -⟩
    · rw [e1, e2]; rfl
    · rw [e1, e2]; rfl
  rw [e, kp_bc8 b hb, one 0 (by decide), one 1 (by decide), one 2 (by decide)]
theorem kM_q {σ : kf_St} {Q : Nat → Option kp_S} (h : kp_QM σ Q) (s : Nat) (hs : s < 3) : (σ.1 120 s = 0 ∧ kp_q Q s = 0) ∨ (σ.1 120 s = 1 ∧ kp_q Q s = 1) := by
  unfold kp_q
  rcases h s hs with ⟨e1, e2⟩ | ⟨S, e1, e2, -⟩
  · rw [e1, e2]; exact Or.inl ⟨rfl, rfl⟩
  · rw [e1, e2]; exact Or.inr ⟨rfl, rfl⟩
