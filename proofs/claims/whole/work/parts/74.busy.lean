/-! ===== pure: busy, year ===== -/
theorem kC_dby {A : kp_A} {k : Nat} (hA : kp_Aok A k) (hk : k ≤ 520) {σ : kf_St} (h : kp_Cr A σ) {c n : Nat} (hc : c < kt_nc (ka_T A)) (hn : n ≤ 60) : f_X11_liftsDueBy 0 (nI c) (nI n) σ = some (nI (kp_sf (fun r => decide (kt_rc (ka_T A) r = c)) (fun r => kp_du A r n) (kt_nr (ka_T A))), σ) := by
  have h10 := hA.1.1.2.2
  have h5 := hA.1.1.2.1
  unfold f_X11_liftsDueBy
  refine kp_run (n := kt_nr (ka_T A)) (fun i f => f_X11_liftsDueBy_5 f 0 (nI c) (nI n) (nI (kp_sf (fun r => decide (kt_rc (ka_T A) r = c)) (fun r => kp_du A r n) i)) (nI i) σ = some (nI (kp_sf (fun r => decide (kt_rc (ka_T A) r = c)) (fun r => kp_du A r n) (kt_nr (ka_T A))), σ)) (by omega) (fun f => ?_) (fun i hi f ih => ?_)
  · show f_X11_liftsDueBy_5_s _ 0 (nI c) (nI n) _ (nI (kt_nr (ka_T A))) σ = _
    unfold f_X11_liftsDueBy_5_s
    simp (disch := omega) only [↓reduceIte, kz_lt, Option.bind_some, kz_ix, kz_leT, kz_leF, kz_ltT, kz_ltF, kz_lt0, kz_0le, kz_0ltT, kz_le0F, kz_eq0F, kz_10, kz_00, kz_11, kz_01, nI_clamp, nI_1, nI_add, pk_mul, kc0, kc1, kc2, kc3, kc4, kc5, kc6, kc7, kc8, kc9, kc10, kx0, kx1, kx2, kx3, kx4, kx5, kx6, kx7, kx8, kr0_0, kr0_1, kr0_2, kr0_3, kr0_4, kr0_5, kr0_6, kr0_7, kr0_8, kr0_9, kr1_1, kr1_2, kr1_3, kr1_4, kr1_5, kr7_6, kr7_7, kr7_8, kr7_9, kr7_10, kr7_11, kr7_12, kr7_13, kr7_14, kr7_15, kr7_16, kr16_1, kr16_2, kr19_1, kr19_2, kr22_1, kr22_2, kr25_6, kr25_7, kr25_8, kr25_9, kr25_10, kr25_11, kr25_12, kr25_13, kr25_14, kr25_15, kr25_16, kr34_1, kr34_2, kr37_1, kr37_2, kr40_1, kr40_2, kr43_2, kr43_3, kr44_0, kr44_1, kr44_4, kr46_0, kr48_0, kr50_0, kr52_0, kr54_0, kr56_0, kr60_3, kr60_4, kr63_0, kr63_1, kr63_2, kr66_0, kr66_1, kr66_2, kr66_3, kr66_4, kr67_0, kr70_0, kr70_1, kr70_2, kr72_1, kr72_2, kr72_3, kr72_4, kr72_5, kr72_6, kr72_7, kl2, kl3, kl4, kl5, kl6, kl8, kl9, kl10, kl11, kl12, kl13, kl14, kl15, kl17, kl18, kl20, kl21, kl23, kl24, kl26, kl27, kl28, kl29, kl30, kl31, kl32, kl33, kl35, kl36, kl38, kl39, kl41, kl42, kl45, kl47, kl49, kl51, kl53, kl55, kl57, kl58, kl59, kl61, kl62, kl64, kl65, kl68, kl69, kl71, kl73, kl74, kl75, kl76, h.1.1.2.2]
  · obtain ⟨t1, t2, -⟩ := hA.1.2.2.2.1 i hi
    show f_X11_liftsDueBy_5_s _ 0 (nI c) (nI n) _ (nI i) σ = _
    unfold f_X11_liftsDueBy_5_s f_X11_liftsDueBy_41
    simp (disch := omega) only [↓reduceIte, kz_lt, Option.bind_some, kz_ix, kz_leT, kz_leF, kz_ltT, kz_ltF, kz_lt0, kz_0le, kz_0ltT, kz_le0F, kz_eq0F, kz_10, kz_00, kz_11, kz_01, nI_clamp, nI_1, nI_add, pk_mul, kc0, kc1, kc2, kc3, kc4, kc5, kc6, kc7, kc8, kc9, kc10, kx0, kx1, kx2, kx3, kx4, kx5, kx6, kx7, kx8, kr0_0, kr0_1, kr0_2, kr0_3, kr0_4, kr0_5, kr0_6, kr0_7, kr0_8, kr0_9, kr1_1, kr1_2, kr1_3, kr1_4, kr1_5, kr7_6, kr7_7, kr7_8, kr7_9, kr7_10, kr7_11, kr7_12, kr7_13, kr7_14, kr7_15, kr7_16, kr16_1, kr16_2, kr19_1, kr19_2, kr22_1, kr22_2, kr25_6, kr25_7, kr25_8, kr25_9, kr25_10, kr25_11, kr25_12, kr25_13, kr25_14, kr25_15, kr25_16, kr34_1, kr34_2, kr37_1, kr37_2, kr40_1, kr40_2, kr43_2, kr43_3, kr44_0, kr44_1, kr44_4, kr46_0, kr48_0, kr50_0, kr52_0, kr54_0, kr56_0, kr60_3, kr60_4, kr63_0, kr63_1, kr63_2, kr66_0, kr66_1, kr66_2, kr66_3, kr66_4, kr67_0, kr70_0, kr70_1, kr70_2, kr72_1, kr72_2, kr72_3, kr72_4, kr72_5, kr72_6, kr72_7, kl2, kl3, kl4, kl5, kl6, kl8, kl9, kl10, kl11, kl12, kl13, kl14, kl15, kl17, kl18, kl20, kl21, kl23, kl24, kl26, kl27, kl28, kl29, kl30, kl31, kl32, kl33, kl35, kl36, kl38, kl39, kl41, kl42, kl45, kl47, kl49, kl51, kl53, kl55, kl57, kl58, kl59, kl61, kl62, kl64, kl65, kl68, kl69, kl71, kl73, kl74, kl75, kl76, h.1.1.2.2, (h.1.2.2.2.2.1 i hi).1, kC_due hA hk h hi hn]
    rw [kp_sf_s] at ih
    by_cases b : kt_rc (ka_T A) i = c
    · rw [if_pos (decide_eq_true b)] at ih
      rw [if_pos (by rw [b])]; exact ih
    · rw [if_neg (fun e => b (of_decide_eq_true e))] at ih
      rw [if_neg (fun x => b ((nI_eq (by omega) (by omega)).mp x))]; exact ih
theorem kp_sf_le {f : Nat → Bool} {v : Nat → Nat} {m : Nat} (hv : ∀ r, v r ≤ m) : ∀ n, kp_sf f v n ≤ n * m
  | 0 => Nat.zero_le _
  | n + 1 => by
    have := kp_sf_le (f := f) hv n
    have := hv n
    rw [kp_sf_s, Nat.succ_mul]
    by_cases b : f n = true
    · rw [if_pos b]; omega
    · rw [if_neg b]; omega
theorem kq_busy {A : kp_A} {k : Nat} (hA : kp_Aok A k) (hk : k ≤ 520) (x w : Int32) : kp_qq A (f_X11_busy 0 x w) (f_X12_busy 77 x w) := by
  have h5 := hA.1.1.2.1
  have h10 := hA.1.1.2.2
  by_cases hx : kp_is x 61 = true ∧ x ≠ 0
  · obtain ⟨n, hn, n0, rfl⟩ := kp_is61 hx
    by_cases hw : kp_is w 2 = true
    · have e0 : ∀ σ : kf_St, f_X11_isPick w σ = some (1, σ) := fun σ => by rcases kp_pk hw with rfl | rfl <;> rfl
      have e1 : ∀ σ : kf_St, f_X12_in w 0 1 σ = some (1, σ) := fun σ => by rcases kp_pk hw with rfl | rfl <;> rfl
      refine ⟨kp_p2 w (kp_mf (fun c => nI (kp_sf (fun r => decide (kt_rc (ka_T A) r = c)) (fun r => kp_du A r n) (kt_nr (ka_T A)))) (kt_nc (ka_T A))), ?_⟩
      generalize hg : (fun c => nI (kp_sf (fun r => decide (kt_rc (ka_T A) r = c)) (fun r => kp_du A r n) (kt_nr (ka_T A)))) = u
      have hu : ∀ c, u c = nI (kp_sf (fun r => decide (kt_rc (ka_T A) r = c)) (fun r => kp_du A r n) (kt_nr (ka_T A))) := fun d => by rw [← hg]
      have up : ∀ c, 0 ≤ u c := fun c => by
        have q : kp_sf (fun r => decide (kt_rc (ka_T A) r = c)) (fun r => kp_du A r n) (kt_nr (ka_T A)) ≤ kt_nr (ka_T A) * 60 := kp_sf_le (fun r => Nat.le_trans (kp_ct_le _ n) hn) _
        rw [hu c]; exact nI_pos' (by omega)
      refine ⟨fun σ h => ⟨σ, ?_, kp_ch.rf⟩, fun σ h => ?_⟩
      · unfold f_X11_busy
        simp (disch := omega) only [↓reduceIte, kz_lt, Option.bind_some, kz_ix, kz_leT, kz_leF, kz_ltT, kz_ltF, kz_lt0, kz_0le, kz_0ltT, kz_le0F, kz_eq0F, kz_10, kz_00, kz_11, kz_01, nI_clamp, nI_1, nI_add, pk_mul, kn3, kn4, kn5, kn6, kn7, kn8, kn9, kn10, kn16, kn20, kn24, kn30, kn32, kn36, kn40, kn41, kn42, kn48, kn54, kn60, kn61, kn64, kn69, kn70, kn99, kn100, kc0, kc1, kc2, kc3, kc4, kc5, kc6, kc7, kc8, kc9, kc10, kx0, kx1, kx2, kx3, kx4, kx5, kx6, kx7, kx8, kr0_0, kr0_1, kr0_2, kr0_3, kr0_4, kr0_5, kr0_6, kr0_7, kr0_8, kr0_9, kr1_1, kr1_2, kr1_3, kr1_4, kr1_5, kr7_6, kr7_7, kr7_8, kr7_9, kr7_10, kr7_11, kr7_12, kr7_13, kr7_14, kr7_15, kr7_16, kr16_1, kr16_2, kr19_1, kr19_2, kr22_1, kr22_2, kr25_6, kr25_7, kr25_8, kr25_9, kr25_10, kr25_11, kr25_12, kr25_13, kr25_14, kr25_15, kr25_16, kr34_1, kr34_2, kr37_1, kr37_2, kr40_1, kr40_2, kr43_2, kr43_3, kr44_0, kr44_1, kr44_4, kr46_0, kr48_0, kr50_0, kr52_0, kr54_0, kr56_0, kr60_3, kr60_4, kr63_0, kr63_1, kr63_2, kr66_0, kr66_1, kr66_2, kr66_3, kr66_4, kr67_0, kr70_0, kr70_1, kr70_2, kr72_1, kr72_2, kr72_3, kr72_4, kr72_5, kr72_6, kr72_7, kl2, kl3, kl4, kl5, kl6, kl8, kl9, kl10, kl11, kl12, kl13, kl14, kl15, kl17, kl18, kl20, kl21, kl23, kl24, kl26, kl27, kl28, kl29, kl30, kl31, kl32, kl33, kl35, kl36, kl38, kl39, kl41, kl42, kl45, kl47, kl49, kl51, kl53, kl55, kl57, kl58, kl59, kl61, kl62, kl64, kl65, kl68, kl69, kl71, kl73, kl74, kl75, kl76, e0, kz_lt1F]
        refine kp_run (n := kt_nc (ka_T A)) (fun i f => f_X11_busy_30 f 0 (nI n) w (kp_mf u i).1 (kp_mf u i).2 (nI i) σ = some (kp_p2 w (kp_mf u (kt_nc (ka_T A))), σ)) (by omega) (fun f => ?_) (fun i hi f ih => ?_)
        · show f_X11_busy_30_s _ 0 (nI n) w _ _ (nI (kt_nc (ka_T A))) σ = _
          unfold f_X11_busy_30_s kp_p2
          simp (disch := omega) only [↓reduceIte, kz_lt, Option.bind_some, kz_ix, kz_leT, kz_leF, kz_ltT, kz_ltF, kz_lt0, kz_0le, kz_0ltT, kz_le0F, kz_eq0F, kz_10, kz_00, kz_11, kz_01, nI_clamp, nI_1, nI_add, pk_mul, kc0, kc1, kc2, kc3, kc4, kc5, kc6, kc7, kc8, kc9, kc10, kx0, kx1, kx2, kx3, kx4, kx5, kx6, kx7, kx8, kr0_0, kr0_1, kr0_2, kr0_3, kr0_4, kr0_5, kr0_6, kr0_7, kr0_8, kr0_9, kr1_1, kr1_2, kr1_3, kr1_4, kr1_5, kr7_6, kr7_7, kr7_8, kr7_9, kr7_10, kr7_11, kr7_12, kr7_13, kr7_14, kr7_15, kr7_16, kr16_1, kr16_2, kr19_1, kr19_2, kr22_1, kr22_2, kr25_6, kr25_7, kr25_8, kr25_9, kr25_10, kr25_11, kr25_12, kr25_13, kr25_14, kr25_15, kr25_16, kr34_1, kr34_2, kr37_1, kr37_2, kr40_1, kr40_2, kr43_2, kr43_3, kr44_0, kr44_1, kr44_4, kr46_0, kr48_0, kr50_0, kr52_0, kr54_0, kr56_0, kr60_3, kr60_4, kr63_0, kr63_1, kr63_2, kr66_0, kr66_1, kr66_2, kr66_3, kr66_4, kr67_0, kr70_0, kr70_1, kr70_2, kr72_1, kr72_2, kr72_3, kr72_4, kr72_5, kr72_6, kr72_7, kl2, kl3, kl4, kl5, kl6, kl8, kl9, kl10, kl11, kl12, kl13, kl14, kl15, kl17, kl18, kl20, kl21, kl23, kl24, kl26, kl27, kl28, kl29, kl30, kl31, kl32, kl33, kl35, kl36, kl38, kl39, kl41, kl42, kl45, kl47, kl49, kl51, kl53, kl55, kl57, kl58, kl59, kl61, kl62, kl64, kl65, kl68, kl69, kl71, kl73, kl74, kl75, kl76, h.1.1.2.1]
          by_cases hw : w = 0
          · rw [if_pos hw, if_pos hw]
          · rw [if_neg hw, if_neg hw]
        · show f_X11_busy_30_s _ 0 (nI n) w _ _ (nI i) σ = _
          unfold f_X11_busy_30_s f_X11_busy_65
          simp (disch := omega) only [↓reduceIte, kz_lt, Option.bind_some, kz_ix, kz_leT, kz_leF, kz_ltT, kz_ltF, kz_lt0, kz_0le, kz_0ltT, kz_le0F, kz_eq0F, kz_10, kz_00, kz_11, kz_01, nI_clamp, nI_1, nI_add, pk_mul, kc0, kc1, kc2, kc3, kc4, kc5, kc6, kc7, kc8, kc9, kc10, kx0, kx1, kx2, kx3, kx4, kx5, kx6, kx7, kx8, kr0_0, kr0_1, kr0_2, kr0_3, kr0_4, kr0_5, kr0_6, kr0_7, kr0_8, kr0_9, kr1_1, kr1_2, kr1_3, kr1_4, kr1_5, kr7_6, kr7_7, kr7_8, kr7_9, kr7_10, kr7_11, kr7_12, kr7_13, kr7_14, kr7_15, kr7_16, kr16_1, kr16_2, kr19_1, kr19_2, kr22_1, kr22_2, kr25_6, kr25_7, kr25_8, kr25_9, kr25_10, kr25_11, kr25_12, kr25_13, kr25_14, kr25_15, kr25_16, kr34_1, kr34_2, kr37_1, kr37_2, kr40_1, kr40_2, kr43_2, kr43_3, kr44_0, kr44_1, kr44_4, kr46_0, kr48_0, kr50_0, kr52_0, kr54_0, kr56_0, kr60_3, kr60_4, kr63_0, kr63_1, kr63_2, kr66_0, kr66_1, kr66_2, kr66_3, kr66_4, kr67_0, kr70_0, kr70_1, kr70_2, kr72_1, kr72_2, kr72_3, kr72_4, kr72_5, kr72_6, kr72_7, kl2, kl3, kl4, kl5, kl6, kl8, kl9, kl10, kl11, kl12, kl13, kl14, kl15, kl17, kl18, kl20, kl21, kl23, kl24, kl26, kl27, kl28, kl29, kl30, kl31, kl32, kl33, kl35, kl36, kl38, kl39, kl41, kl42, kl45, kl47, kl49, kl51, kl53, kl55, kl57, kl58, kl59, kl61, kl62, kl64, kl65, kl68, kl69, kl71, kl73, kl74, kl75, kl76, h.1.1.2.1, kC_dby hA hk h hi hn]
          rw [← hu i]
          rw [kp_mf_s] at ih
          by_cases h1 : u i ≤ (kp_mf u i).2
          · rw [if_pos h1] at ih ⊢; exact ih
          · rw [if_neg h1] at ih ⊢; exact ih
      · obtain ⟨lv, hm⟩ := h.1
        have hl := hm.1
        have l107 : 0 < kt_nc (ka_T A) → ∀ τ, kp_chM (fun r => r = 116) (fun _ => False) σ τ → (∀ c, c < 5 → τ.1 116 c = u c) → f_X12_busy_107 kf_F 77 w 0 1 τ = some (kp_p2 w (kp_mf u (kt_nc (ka_T A))), τ) := by
          intro n1 τ c eu
          have hm' := hm.chM c (fun r e => by omega) (fun e => e)
          have q0 : (0 : Int32) = (kp_mf u 1).1 := by rw [kp_mf_1 u (up 0)]; rfl
          rw [show f_X12_busy_107 kf_F 77 w 0 1 τ = f_X12_busy_107 kf_F 77 w (kp_mf u 1).1 (nI 1) τ by rw [← q0]; rfl]
          refine kp_runI (n := kt_nc (ka_T A)) (fun i f => f_X12_busy_107 f 77 w (kp_mf u i).1 (nI i) τ = some (kp_p2 w (kp_mf u (kt_nc (ka_T A))), τ)) 1 (by omega) (by omega) (fun f => ?_) (fun i hi1 hi f ih => ?_)
          · show f_X12_busy_107_s _ 77 w _ (nI (kt_nc (ka_T A))) τ = _
            unfold f_X12_busy_107_s kp_p2
            rcases kp_mf_inv u (kt_nc (ka_T A)) (fun i _ => up i) with ⟨e0, e⟩ | ⟨j, hj, e1, e2⟩
            · omega
            · simp (disch := omega) only [↓reduceIte, kz_lt, Option.bind_some, kz_ix, kz_leT, kz_leF, kz_ltT, kz_ltF, kz_lt0, kz_0le, kz_0ltT, kz_le0F, kz_eq0F, kz_10, kz_00, kz_11, kz_01, nI_clamp, nI_1, nI_add, pk_mul, kc0, kc1, kc2, kc3, kc4, kc5, kc6, kc7, kc8, kc9, kc10, kx0, kx1, kx2, kx3, kx4, kx5, kx6, kx7, kx8, kr77_1, kr77_3, kr77_5, kr77_6, kr77_7, kr77_8, kr77_9, kr77_21, kr77_22, kr77_23, kr77_24, kr77_25, kr77_26, kr77_27, kr77_28, kr77_29, kr77_30, kr77_31, kr77_32, kr77_33, kr77_34, kr77_35, kr77_36, kr77_38, kr77_39, kr77_40, kr77_41, kr77_42, kr77_44, kr77_45, kr77_46, kr77_48, kr77_49, kr77_51, kr77_52, kr77_55, kr77_57, kr77_58, kr77_59, kr77_61, kr77_62, kr77_63, kr77_64, kr77_65, kl78, kl79, kl80, kl81, kl82, kl83, kl84, kl85, kl86, kl87, kl88, kl89, kl90, kl91, kl92, kl93, kl94, kl95, kl96, kl97, kl98, kl99, kl100, kl101, kl102, kl103, kl104, kl105, kl106, kl107, kl108, kl109, kl110, kl111, kl112, kl113, kl114, kl115, kl116, kl117, kl118, kl119, kl120, kl121, hm'.2.1, hm'.2.2.1.2.1, e1, e2, eu j (show j < 5 by omega)]
              by_cases hw : w = 0
              · rw [if_pos hw, if_pos hw]
              · rw [if_neg hw, if_neg hw]
          · show f_X12_busy_107_s _ 77 w _ (nI i) τ = _
            unfold f_X12_busy_107_s f_X12_busy_140
            rcases kp_mf_inv u i (fun i _ => up i) with ⟨e0, e⟩ | ⟨j, hj, e1, e2⟩
            · omega
            · rw [kp_mf_s, e2] at ih
              simp (disch := omega) only [↓reduceIte, kz_lt, Option.bind_some, kz_ix, kz_leT, kz_leF, kz_ltT, kz_ltF, kz_lt0, kz_0le, kz_0ltT, kz_le0F, kz_eq0F, kz_10, kz_00, kz_11, kz_01, nI_clamp, nI_1, nI_add, pk_mul, kc0, kc1, kc2, kc3, kc4, kc5, kc6, kc7, kc8, kc9, kc10, kx0, kx1, kx2, kx3, kx4, kx5, kx6, kx7, kx8, kr77_1, kr77_3, kr77_5, kr77_6, kr77_7, kr77_8, kr77_9, kr77_21, kr77_22, kr77_23, kr77_24, kr77_25, kr77_26, kr77_27, kr77_28, kr77_29, kr77_30, kr77_31, kr77_32, kr77_33, kr77_34, kr77_35, kr77_36, kr77_38, kr77_39, kr77_40, kr77_41, kr77_42, kr77_44, kr77_45, kr77_46, kr77_48, kr77_49, kr77_51, kr77_52, kr77_55, kr77_57, kr77_58, kr77_59, kr77_61, kr77_62, kr77_63, kr77_64, kr77_65, kl78, kl79, kl80, kl81, kl82, kl83, kl84, kl85, kl86, kl87, kl88, kl89, kl90, kl91, kl92, kl93, kl94, kl95, kl96, kl97, kl98, kl99, kl100, kl101, kl102, kl103, kl104, kl105, kl106, kl107, kl108, kl109, kl110, kl111, kl112, kl113, kl114, kl115, kl116, kl117, kl118, kl119, kl120, kl121, hm'.2.1, hm'.2.2.1.2.1, e1, eu j (show j < 5 by omega), eu i (show i < 5 by omega)]
              by_cases h1 : u i ≤ u j
              · rw [if_pos h1] at ih ⊢; rw [e1] at ih; exact ih
              · rw [if_neg h1] at ih ⊢; exact ih
        have l55 : 0 < kt_nc (ka_T A) → ∀ τ, kp_chM (fun r => r = 116) (fun _ => False) σ τ → (∀ c, c < 5 → τ.1 116 c = 0) → ∃ τ', f_X12_busy_55 kf_F 77 (nI n) w 0 τ = some (kp_p2 w (kp_mf u (kt_nc (ka_T A))), τ') ∧ kp_chM (fun r => r = 116) (fun _ => False) σ τ' := by
          intro n1 τ c eu
          refine kp_run (n := kt_nr (ka_T A)) (fun i f => ∀ τ, kp_chM (fun r => r = 116) (fun _ => False) σ τ → (∀ c, c < 5 → τ.1 116 c = nI (kp_sf (fun r => decide (kt_rc (ka_T A) r = c)) (fun r => kp_du A r n) i)) → ∃ τ', f_X12_busy_55 f 77 (nI n) w (nI i) τ = some (kp_p2 w (kp_mf u (kt_nc (ka_T A))), τ') ∧ kp_chM (fun r => r = 116) (fun _ => False) σ τ') (by omega) (fun f τ c eu => ?_) (fun i hi f ih τ c eu => ?_) τ c eu
          · have hm' := hm.chM c (fun r e => by omega) (fun e => e)
            refine ⟨τ, ?_, c⟩
            show f_X12_busy_55_s _ 77 (nI n) w (nI (kt_nr (ka_T A))) τ = _
            unfold f_X12_busy_55_s
            simp (disch := omega) only [↓reduceIte, kz_lt, Option.bind_some, kz_ix, kz_leT, kz_leF, kz_ltT, kz_ltF, kz_lt0, kz_0le, kz_0ltT, kz_le0F, kz_eq0F, kz_10, kz_00, kz_11, kz_01, nI_clamp, nI_1, nI_add, pk_mul, kc0, kc1, kc2, kc3, kc4, kc5, kc6, kc7, kc8, kc9, kc10, kx0, kx1, kx2, kx3, kx4, kx5, kx6, kx7, kx8, kr77_1, kr77_3, kr77_5, kr77_6, kr77_7, kr77_8, kr77_9, kr77_21, kr77_22, kr77_23, kr77_24, kr77_25, kr77_26, kr77_27, kr77_28, kr77_29, kr77_30, kr77_31, kr77_32, kr77_33, kr77_34, kr77_35, kr77_36, kr77_38, kr77_39, kr77_40, kr77_41, kr77_42, kr77_44, kr77_45, kr77_46, kr77_48, kr77_49, kr77_51, kr77_52, kr77_55, kr77_57, kr77_58, kr77_59, kr77_61, kr77_62, kr77_63, kr77_64, kr77_65, kl78, kl79, kl80, kl81, kl82, kl83, kl84, kl85, kl86, kl87, kl88, kl89, kl90, kl91, kl92, kl93, kl94, kl95, kl96, kl97, kl98, kl99, kl100, kl101, kl102, kl103, kl104, kl105, kl106, kl107, kl108, kl109, kl110, kl111, kl112, kl113, kl114, kl115, kl116, kl117, kl118, kl119, kl120, kl121, hm'.2.1, hm'.2.2.1.2.2, l107 n1 τ c (fun c hc => by rw [eu c hc, hu c])]
          · have hm' := hm.chM c (fun r e => by omega) (fun e => e)
            obtain ⟨t1, t2, -⟩ := hA.1.2.2.2.1 i hi
            have hs : kp_fS (τ.1 111) (ka_S A) := by rw [c.1 111 (by decide) (by decide)]; exact h.2.1
            show ∃ τ', f_X12_busy_55_s _ 77 (nI n) w (nI i) τ = some (_, τ') ∧ _
            unfold f_X12_busy_55_s
            simp (disch := omega) only [↓reduceIte, kz_lt, Option.bind_some, kz_ix, kz_leT, kz_leF, kz_ltT, kz_ltF, kz_lt0, kz_0le, kz_0ltT, kz_le0F, kz_eq0F, kz_10, kz_00, kz_11, kz_01, nI_clamp, nI_1, nI_add, pk_mul, kc0, kc1, kc2, kc3, kc4, kc5, kc6, kc7, kc8, kc9, kc10, kx0, kx1, kx2, kx3, kx4, kx5, kx6, kx7, kx8, kr77_1, kr77_3, kr77_5, kr77_6, kr77_7, kr77_8, kr77_9, kr77_21, kr77_22, kr77_23, kr77_24, kr77_25, kr77_26, kr77_27, kr77_28, kr77_29, kr77_30, kr77_31, kr77_32, kr77_33, kr77_34, kr77_35, kr77_36, kr77_38, kr77_39, kr77_40, kr77_41, kr77_42, kr77_44, kr77_45, kr77_46, kr77_48, kr77_49, kr77_51, kr77_52, kr77_55, kr77_57, kr77_58, kr77_59, kr77_61, kr77_62, kr77_63, kr77_64, kr77_65, kl78, kl79, kl80, kl81, kl82, kl83, kl84, kl85, kl86, kl87, kl88, kl89, kl90, kl91, kl92, kl93, kl94, kl95, kl96, kl97, kl98, kl99, kl100, kl101, kl102, kl103, kl104, kl105, kl106, kl107, kl108, kl109, kl110, kl111, kl112, kl113, kl114, kl115, kl116, kl117, kl118, kl119, kl120, kl121, hm'.2.1, hm'.2.2.1.2.2, kn10, (hm'.2.2.2.2.2.2.1 i hi).1, kM_due hA hk hm' hs hi hn, eu (kt_rc (ka_T A) i) (show kt_rc (ka_T A) i < 5 by omega)]
            refine ih _ (c.wi rfl (by decide)) (fun c' hc' => ?_)
            rw [kp_sf_s]
            by_cases b : c' = kt_rc (ka_T A) i
            · rw [b, kp_wi_same, if_pos (decide_eq_true rfl)]
            · rw [kp_wi_col b, if_neg (fun e => b (of_decide_eq_true e).symm)]; exact eu c' hc'
        have l35 : 0 < kt_nc (ka_T A) → ∃ τ', f_X12_busy_35 kf_F 77 (nI n) w 0 σ = some (kp_p2 w (kp_mf u (kt_nc (ka_T A))), τ') ∧ kp_chM (fun r => r = 116) (fun _ => False) σ τ' := by
          intro n1
          refine kp_run (n := 5) (fun i f => ∀ τ, kp_chM (fun r => r = 116) (fun _ => False) σ τ → (∀ c, c < i → τ.1 116 c = 0) → ∃ τ', f_X12_busy_35 f 77 (nI n) w (nI i) τ = some (kp_p2 w (kp_mf u (kt_nc (ka_T A))), τ') ∧ kp_chM (fun r => r = 116) (fun _ => False) σ τ') (by omega) (fun f τ c eu => ?_) (fun i hi f ih τ c eu => ?_) σ kp_chM.rf (fun c hc => absurd hc (Nat.not_lt_zero c))
          · obtain ⟨τ', a1, a2⟩ := l55 n1 τ c eu
            refine ⟨τ', ?_, a2⟩
            show f_X12_busy_35_s _ 77 (nI n) w (nI 5) τ = _
            unfold f_X12_busy_35_s
            simp (disch := omega) only [↓reduceIte, kz_lt, Option.bind_some, kz_ix, kz_leT, kz_leF, kz_ltT, kz_ltF, kz_lt0, kz_0le, kz_0ltT, kz_le0F, kz_eq0F, kz_10, kz_00, kz_11, kz_01, nI_clamp, nI_1, nI_add, pk_mul, kn3, kn4, kn5, kn6, kn7, kn8, kn9, kn10, kn16, kn20, kn24, kn30, kn32, kn36, kn40, kn41, kn42, kn48, kn54, kn60, kn61, kn64, kn69, kn70, kn99, kn100, kc0, kc1, kc2, kc3, kc4, kc5, kc6, kc7, kc8, kc9, kc10, kx0, kx1, kx2, kx3, kx4, kx5, kx6, kx7, kx8, kr77_1, kr77_3, kr77_5, kr77_6, kr77_7, kr77_8, kr77_9, kr77_21, kr77_22, kr77_23, kr77_24, kr77_25, kr77_26, kr77_27, kr77_28, kr77_29, kr77_30, kr77_31, kr77_32, kr77_33, kr77_34, kr77_35, kr77_36, kr77_38, kr77_39, kr77_40, kr77_41, kr77_42, kr77_44, kr77_45, kr77_46, kr77_48, kr77_49, kr77_51, kr77_52, kr77_55, kr77_57, kr77_58, kr77_59, kr77_61, kr77_62, kr77_63, kr77_64, kr77_65, kl78, kl79, kl80, kl81, kl82, kl83, kl84, kl85, kl86, kl87, kl88, kl89, kl90, kl91, kl92, kl93, kl94, kl95, kl96, kl97, kl98, kl99, kl100, kl101, kl102, kl103, kl104, kl105, kl106, kl107, kl108, kl109, kl110, kl111, kl112, kl113, kl114, kl115, kl116, kl117, kl118, kl119, kl120, kl121, a1]
          · show ∃ τ', f_X12_busy_35_s _ 77 (nI n) w (nI i) τ = some (_, τ') ∧ _
            unfold f_X12_busy_35_s
            simp (disch := omega) only [↓reduceIte, kz_lt, Option.bind_some, kz_ix, kz_leT, kz_leF, kz_ltT, kz_ltF, kz_lt0, kz_0le, kz_0ltT, kz_le0F, kz_eq0F, kz_10, kz_00, kz_11, kz_01, nI_clamp, nI_1, nI_add, pk_mul, kn3, kn4, kn5, kn6, kn7, kn8, kn9, kn10, kn16, kn20, kn24, kn30, kn32, kn36, kn40, kn41, kn42, kn48, kn54, kn60, kn61, kn64, kn69, kn70, kn99, kn100, kc0, kc1, kc2, kc3, kc4, kc5, kc6, kc7, kc8, kc9, kc10, kx0, kx1, kx2, kx3, kx4, kx5, kx6, kx7, kx8, kr77_1, kr77_3, kr77_5, kr77_6, kr77_7, kr77_8, kr77_9, kr77_21, kr77_22, kr77_23, kr77_24, kr77_25, kr77_26, kr77_27, kr77_28, kr77_29, kr77_30, kr77_31, kr77_32, kr77_33, kr77_34, kr77_35, kr77_36, kr77_38, kr77_39, kr77_40, kr77_41, kr77_42, kr77_44, kr77_45, kr77_46, kr77_48, kr77_49, kr77_51, kr77_52, kr77_55, kr77_57, kr77_58, kr77_59, kr77_61, kr77_62, kr77_63, kr77_64, kr77_65, kl78, kl79, kl80, kl81, kl82, kl83, kl84, kl85, kl86, kl87, kl88, kl89, kl90, kl91, kl92, kl93, kl94, kl95, kl96, kl97, kl98, kl99, kl100, kl101, kl102, kl103, kl104, kl105, kl106, kl107, kl108, kl109, kl110, kl111, kl112, kl113, kl114, kl115, kl116, kl117, kl118, kl119, kl120, kl121]
            refine ih _ (c.wi rfl (by decide)) (fun c' hc' => ?_)
            by_cases b : c' = i
            · rw [b, kp_wi_same]
            · rw [kp_wi_col b]; exact eu c' (by omega)
        unfold f_X12_busy
        simp (disch := omega) only [↓reduceIte, kz_lt, Option.bind_some, kz_ix, kz_leT, kz_leF, kz_ltT, kz_ltF, kz_lt0, kz_0le, kz_0ltT, kz_le0F, kz_eq0F, kz_10, kz_00, kz_11, kz_01, nI_clamp, nI_1, nI_add, pk_mul, kc0, kc1, kc2, kc3, kc4, kc5, kc6, kc7, kc8, kc9, kc10, kx0, kx1, kx2, kx3, kx4, kx5, kx6, kx7, kx8, kr77_1, kr77_3, kr77_5, kr77_6, kr77_7, kr77_8, kr77_9, kr77_21, kr77_22, kr77_23, kr77_24, kr77_25, kr77_26, kr77_27, kr77_28, kr77_29, kr77_30, kr77_31, kr77_32, kr77_33, kr77_34, kr77_35, kr77_36, kr77_38, kr77_39, kr77_40, kr77_41, kr77_42, kr77_44, kr77_45, kr77_46, kr77_48, kr77_49, kr77_51, kr77_52, kr77_55, kr77_57, kr77_58, kr77_59, kr77_61, kr77_62, kr77_63, kr77_64, kr77_65, kl78, kl79, kl80, kl81, kl82, kl83, kl84, kl85, kl86, kl87, kl88, kl89, kl90, kl91, kl92, kl93, kl94, kl95, kl96, kl97, kl98, kl99, kl100, kl101, kl102, kl103, kl104, kl105, kl106, kl107, kl108, kl109, kl110, kl111, kl112, kl113, kl114, kl115, kl116, kl117, kl118, kl119, kl120, kl121, kM_sm hn n0, e1, hm.2.1, hm.2.2.1.2.1]
        by_cases b : kt_nc (ka_T A) = 0
        · refine ⟨σ, ?_, kp_chM.rf⟩
          rw [b]
          rw [if_pos (show nI 0 = 0 from rfl)]
          unfold kp_p2
          rcases kp_pk hw with rfl | rfl <;> rfl
        · obtain ⟨τ', a1, a2⟩ := l35 (by omega)
          rw [if_neg (nI_ne0 (by omega) (by omega))]
          exact ⟨τ', a1, a2.mono (fun r e => by unfold kp_xM; omega) (fun r e => e.elim)⟩
    · refine kp_qq.st (-1) (fun σ h => ?_) (fun σ h => ?_)
      · unfold f_X11_busy
        simp (disch := omega) only [↓reduceIte, kz_lt, Option.bind_some, kz_ix, kz_leT, kz_leF, kz_ltT, kz_ltF, kz_lt0, kz_0le, kz_0ltT, kz_le0F, kz_eq0F, kz_10, kz_00, kz_11, kz_01, nI_clamp, nI_1, nI_add, pk_mul, kn3, kn4, kn5, kn6, kn7, kn8, kn9, kn10, kn16, kn20, kn24, kn30, kn32, kn36, kn40, kn41, kn42, kn48, kn54, kn60, kn61, kn64, kn69, kn70, kn99, kn100, kc0, kc1, kc2, kc3, kc4, kc5, kc6, kc7, kc8, kc9, kc10, kx0, kx1, kx2, kx3, kx4, kx5, kx6, kx7, kx8, kr0_0, kr0_1, kr0_2, kr0_3, kr0_4, kr0_5, kr0_6, kr0_7, kr0_8, kr0_9, kr1_1, kr1_2, kr1_3, kr1_4, kr1_5, kr7_6, kr7_7, kr7_8, kr7_9, kr7_10, kr7_11, kr7_12, kr7_13, kr7_14, kr7_15, kr7_16, kr16_1, kr16_2, kr19_1, kr19_2, kr22_1, kr22_2, kr25_6, kr25_7, kr25_8, kr25_9, kr25_10, kr25_11, kr25_12, kr25_13, kr25_14, kr25_15, kr25_16, kr34_1, kr34_2, kr37_1, kr37_2, kr40_1, kr40_2, kr43_2, kr43_3, kr44_0, kr44_1, kr44_4, kr46_0, kr48_0, kr50_0, kr52_0, kr54_0, kr56_0, kr60_3, kr60_4, kr63_0, kr63_1, kr63_2, kr66_0, kr66_1, kr66_2, kr66_3, kr66_4, kr67_0, kr70_0, kr70_1, kr70_2, kr72_1, kr72_2, kr72_3, kr72_4, kr72_5, kr72_6, kr72_7, kl2, kl3, kl4, kl5, kl6, kl8, kl9, kl10, kl11, kl12, kl13, kl14, kl15, kl17, kl18, kl20, kl21, kl23, kl24, kl26, kl27, kl28, kl29, kl30, kl31, kl32, kl33, kl35, kl36, kl38, kl39, kl41, kl42, kl45, kl47, kl49, kl51, kl53, kl55, kl57, kl58, kl59, kl61, kl62, kl64, kl65, kl68, kl69, kl71, kl73, kl74, kl75, kl76, kC_pkF _ hw, kz_lt1F]
      · unfold f_X12_busy
        simp (disch := omega) only [↓reduceIte, kz_lt, Option.bind_some, kz_ix, kz_leT, kz_leF, kz_ltT, kz_ltF, kz_lt0, kz_0le, kz_0ltT, kz_le0F, kz_eq0F, kz_10, kz_00, kz_11, kz_01, nI_clamp, nI_1, nI_add, pk_mul, kc0, kc1, kc2, kc3, kc4, kc5, kc6, kc7, kc8, kc9, kc10, kx0, kx1, kx2, kx3, kx4, kx5, kx6, kx7, kx8, kr77_1, kr77_3, kr77_5, kr77_6, kr77_7, kr77_8, kr77_9, kr77_21, kr77_22, kr77_23, kr77_24, kr77_25, kr77_26, kr77_27, kr77_28, kr77_29, kr77_30, kr77_31, kr77_32, kr77_33, kr77_34, kr77_35, kr77_36, kr77_38, kr77_39, kr77_40, kr77_41, kr77_42, kr77_44, kr77_45, kr77_46, kr77_48, kr77_49, kr77_51, kr77_52, kr77_55, kr77_57, kr77_58, kr77_59, kr77_61, kr77_62, kr77_63, kr77_64, kr77_65, kl78, kl79, kl80, kl81, kl82, kl83, kl84, kl85, kl86, kl87, kl88, kl89, kl90, kl91, kl92, kl93, kl94, kl95, kl96, kl97, kl98, kl99, kl100, kl101, kl102, kl103, kl104, kl105, kl106, kl107, kl108, kl109, kl110, kl111, kl112, kl113, kl114, kl115, kl116, kl117, kl118, kl119, kl120, kl121, kM_sm hn n0, kM_pkF _ hw]
  · refine kp_qq.st (-1) (fun σ h => ?_) (fun σ h => ?_)
    · unfold f_X11_busy
      rcases kp_some hx with h1 | ⟨h1, -, h2⟩
      · rw [if_pos h1]
      · rw [if_neg h1, if_pos h2]
    · unfold f_X12_busy
      simp (disch := omega) only [↓reduceIte, kz_lt, Option.bind_some, kz_ix, kz_leT, kz_leF, kz_ltT, kz_ltF, kz_lt0, kz_0le, kz_0ltT, kz_le0F, kz_eq0F, kz_10, kz_00, kz_11, kz_01, nI_clamp, nI_1, nI_add, pk_mul, kc0, kc1, kc2, kc3, kc4, kc5, kc6, kc7, kc8, kc9, kc10, kx0, kx1, kx2, kx3, kx4, kx5, kx6, kx7, kx8, kr77_1, kr77_3, kr77_5, kr77_6, kr77_7, kr77_8, kr77_9, kr77_21, kr77_22, kr77_23, kr77_24, kr77_25, kr77_26, kr77_27, kr77_28, kr77_29, kr77_30, kr77_31, kr77_32, kr77_33, kr77_34, kr77_35, kr77_36, kr77_38, kr77_39, kr77_40, kr77_41, kr77_42, kr77_44, kr77_45, kr77_46, kr77_48, kr77_49, kr77_51, kr77_52, kr77_55, kr77_57, kr77_58, kr77_59, kr77_61, kr77_62, kr77_63, kr77_64, kr77_65, kl78, kl79, kl80, kl81, kl82, kl83, kl84, kl85, kl86, kl87, kl88, kl89, kl90, kl91, kl92, kl93, kl94, kl95, kl96, kl97, kl98, kl99, kl100, kl101, kl102, kl103, kl104, kl105, kl106, kl107, kl108, kl109, kl110, kl111, kl112, kl113, kl114, kl115, kl116, kl117, kl118, kl119, kl120, kl121, kM_smF hx]
/-! year -/
theorem kp_cs1 (x : Int32) {n : Nat} (hn : n < 2 ^ 30) : (∃ s, 0 < s ∧ s ≤ n ∧ x = nI s) ∨ x < 1 ∨ (¬ x < 1 ∧ ¬ x ≤ nI n ∧ nI n < x) := by
  by_cases h1 : x < 1
  · exact Or.inr (Or.inl h1)
  · have q2 : ¬ x.toInt < (1 : Int32).toInt := fun e => h1 (kp_ltI.mpr e)
    have e1 : (1 : Int32).toInt = 1 := by decide
    have h0 : ¬ x < 0 := fun e => by
      have := kp_ltI.mp e
      have e0 : (0 : Int32).toInt = 0 := by decide
      omega
    obtain ⟨j, hj, rfl⟩ := nI_of h0
    rw [nI_toInt hj] at q2
    by_cases h2 : j ≤ n
    · exact Or.inl ⟨j, by omega, h2, rfl⟩
    · exact Or.inr (Or.inr ⟨h1, nI_ge (by omega) hj, nI_lt (by omega) hj⟩)
theorem kM_in1 {s n : Nat} (h0 : 0 < s) (h : s ≤ n) (hn : n < 2 ^ 31) (σ : kf_St) : f_X12_in (nI s) 1 (nI n) σ = some (1, σ) := by
  unfold f_X12_in
  rw [if_neg (show ¬ nI s < 1 from nI_nlt (a := s) (b := 1) (by omega) (by omega)), if_neg (nI_nlt h hn)]
theorem kM_in1F {x : Int32} {n : Nat} (h : x < 1 ∨ (¬ x < 1 ∧ ¬ x ≤ nI n ∧ nI n < x)) (σ : kf_St) : f_X12_in x 1 (nI n) σ = some (0, σ) := by
  unfold f_X12_in
  rcases h with h | ⟨h1, -, h2⟩
  · rw [if_pos h]
  · rw [if_neg h1, if_pos h2]
theorem kq_year {A : kp_A} {k : Nat} (hA : kp_Aok A k) (hk : k ≤ 520) (x y z w : Int32) : kp_qq A (f_X11_year 0 x y z w) (f_X12_year 77 x y z w) := by
  have h6 := hA.1.1.1
  have hK := kp_kept hA
  have hse := hA.1.2.2.2.2.1.2.2
  have hdy := kp_day hA hk
  refine kp_dc x y hA.1 (fun hx => ?_) (fun d c hd hc e1 e2 => ?_)
  · refine kp_qq.st (-1) (fun σ h => ?_) (fun σ h => ?_)
    · unfold f_X11_year
      simp (disch := omega) only [↓reduceIte, kz_lt, Option.bind_some, kz_ix, kz_leT, kz_leF, kz_ltT, kz_ltF, kz_lt0, kz_0le, kz_0ltT, kz_le0F, kz_eq0F, kz_10, kz_00, kz_11, kz_01, nI_clamp, nI_1, nI_add, pk_mul, kc0, kc1, kc2, kc3, kc4, kc5, kc6, kc7, kc8, kc9, kc10, kx0, kx1, kx2, kx3, kx4, kx5, kx6, kx7, kx8, kr0_0, kr0_1, kr0_2, kr0_3, kr0_4, kr0_5, kr0_6, kr0_7, kr0_8, kr0_9, kr1_1, kr1_2, kr1_3, kr1_4, kr1_5, kr7_6, kr7_7, kr7_8, kr7_9, kr7_10, kr7_11, kr7_12, kr7_13, kr7_14, kr7_15, kr7_16, kr16_1, kr16_2, kr19_1, kr19_2, kr22_1, kr22_2, kr25_6, kr25_7, kr25_8, kr25_9, kr25_10, kr25_11, kr25_12, kr25_13, kr25_14, kr25_15, kr25_16, kr34_1, kr34_2, kr37_1, kr37_2, kr40_1, kr40_2, kr43_2, kr43_3, kr44_0, kr44_1, kr44_4, kr46_0, kr48_0, kr50_0, kr52_0, kr54_0, kr56_0, kr60_3, kr60_4, kr63_0, kr63_1, kr63_2, kr66_0, kr66_1, kr66_2, kr66_3, kr66_4, kr67_0, kr70_0, kr70_1, kr70_2, kr72_1, kr72_2, kr72_3, kr72_4, kr72_5, kr72_6, kr72_7, kl2, kl3, kl4, kl5, kl6, kl8, kl9, kl10, kl11, kl12, kl13, kl14, kl15, kl17, kl18, kl20, kl21, kl23, kl24, kl26, kl27, kl28, kl29, kl30, kl31, kl32, kl33, kl35, kl36, kl38, kl39, kl41, kl42, kl45, kl47, kl49, kl51, kl53, kl55, kl57, kl58, kl59, kl61, kl62, kl64, kl65, kl68, kl69, kl71, kl73, kl74, kl75, kl76, kC_bothF hA h hx]
    · obtain ⟨lv, hm⟩ := h.1
      unfold f_X12_year
      simp (disch := omega) only [↓reduceIte, kz_lt, Option.bind_some, kz_ix, kz_leT, kz_leF, kz_ltT, kz_ltF, kz_lt0, kz_0le, kz_0ltT, kz_le0F, kz_eq0F, kz_10, kz_00, kz_11, kz_01, nI_clamp, nI_1, nI_add, pk_mul, kc0, kc1, kc2, kc3, kc4, kc5, kc6, kc7, kc8, kc9, kc10, kx0, kx1, kx2, kx3, kx4, kx5, kx6, kx7, kx8, kr77_1, kr77_3, kr77_5, kr77_6, kr77_7, kr77_8, kr77_9, kr77_21, kr77_22, kr77_23, kr77_24, kr77_25, kr77_26, kr77_27, kr77_28, kr77_29, kr77_30, kr77_31, kr77_32, kr77_33, kr77_34, kr77_35, kr77_36, kr77_38, kr77_39, kr77_40, kr77_41, kr77_42, kr77_44, kr77_45, kr77_46, kr77_48, kr77_49, kr77_51, kr77_52, kr77_55, kr77_57, kr77_58, kr77_59, kr77_61, kr77_62, kr77_63, kr77_64, kr77_65, kl78, kl79, kl80, kl81, kl82, kl83, kl84, kl85, kl86, kl87, kl88, kl89, kl90, kl91, kl92, kl93, kl94, kl95, kl96, kl97, kl98, kl99, kl100, kl101, kl102, kl103, kl104, kl105, kl106, kl107, kl108, kl109, kl110, kl111, kl112, kl113, kl114, kl115, kl116, kl117, kl118, kl119, kl120, kl121, kM_bothF hA.1 hm hx]
  · subst e1 e2
    by_cases hz : kp_is z 61 = true
    · obtain ⟨n, hn, rfl⟩ := kp_is_t (by decide) hz
      rcases kp_cs1 w (n := 20) (by decide) with ⟨s, s0, hs, rfl⟩ | hw
      · refine ⟨nI (kp_ct (fun i => decide (kp_kn (ka_T A) (kp_dn (ka_T A) d (ka_S A).2.2.1 (nI (kt_se (ka_T A) + i)) (ka_S A).2.2.2 n ((ka_S A).1 d)).1 = nI c)) s), ?_⟩
        generalize hg : (fun i => decide (kp_kn (ka_T A) (kp_dn (ka_T A) d (ka_S A).2.2.1 (nI (kt_se (ka_T A) + i)) (ka_S A).2.2.2 n ((ka_S A).1 d)).1 = nI c)) = G
        have hG : ∀ i, G i = decide (kp_kn (ka_T A) (kp_dn (ka_T A) d (ka_S A).2.2.1 (nI (kt_se (ka_T A) + i)) (ka_S A).2.2.2 n ((ka_S A).1 d)).1 = nI c) := fun i => by rw [← hg]
        refine ⟨fun σ h => ?_, fun σ h => ?_⟩
        · unfold f_X11_year
          simp (disch := omega) only [↓reduceIte, kz_lt, Option.bind_some, kz_ix, kz_leT, kz_leF, kz_ltT, kz_ltF, kz_lt0, kz_0le, kz_0ltT, kz_le0F, kz_eq0F, kz_10, kz_00, kz_11, kz_01, nI_clamp, nI_1, nI_add, pk_mul, kn3, kn4, kn5, kn6, kn7, kn8, kn9, kn10, kn16, kn20, kn24, kn30, kn32, kn36, kn40, kn41, kn42, kn48, kn54, kn60, kn61, kn64, kn69, kn70, kn99, kn100, kc0, kc1, kc2, kc3, kc4, kc5, kc6, kc7, kc8, kc9, kc10, kx0, kx1, kx2, kx3, kx4, kx5, kx6, kx7, kx8, kr0_0, kr0_1, kr0_2, kr0_3, kr0_4, kr0_5, kr0_6, kr0_7, kr0_8, kr0_9, kr1_1, kr1_2, kr1_3, kr1_4, kr1_5, kr7_6, kr7_7, kr7_8, kr7_9, kr7_10, kr7_11, kr7_12, kr7_13, kr7_14, kr7_15, kr7_16, kr16_1, kr16_2, kr19_1, kr19_2, kr22_1, kr22_2, kr25_6, kr25_7, kr25_8, kr25_9, kr25_10, kr25_11, kr25_12, kr25_13, kr25_14, kr25_15, kr25_16, kr34_1, kr34_2, kr37_1, kr37_2, kr40_1, kr40_2, kr43_2, kr43_3, kr44_0, kr44_1, kr44_4, kr46_0, kr48_0, kr50_0, kr52_0, kr54_0, kr56_0, kr60_3, kr60_4, kr63_0, kr63_1, kr63_2, kr66_0, kr66_1, kr66_2, kr66_3, kr66_4, kr67_0, kr70_0, kr70_1, kr70_2, kr72_1, kr72_2, kr72_3, kr72_4, kr72_5, kr72_6, kr72_7, kl2, kl3, kl4, kl5, kl6, kl8, kl9, kl10, kl11, kl12, kl13, kl14, kl15, kl17, kl18, kl20, kl21, kl23, kl24, kl26, kl27, kl28, kl29, kl30, kl31, kl32, kl33, kl35, kl36, kl38, kl39, kl41, kl42, kl45, kl47, kl49, kl51, kl53, kl55, kl57, kl58, kl59, kl61, kl62, kl64, kl65, kl68, kl69, kl71, kl73, kl74, kl75, kl76, kC_both hA h hd hc, kz_lt1F]
          refine kp_run (n := s) (fun i f => ∀ τ, kp_ch kp_xC σ τ → ∃ σ', f_X11_year_43 f 0 (nI d) (nI c) (nI n) (nI s) (nI (kp_ct G i)) (nI i) τ = some (nI (kp_ct G s), σ') ∧ kp_ch kp_xC σ σ') (by omega) (fun f τ cc => ?_) (fun i hi f ih τ cc => ?_) σ kp_ch.rf
          · refine ⟨τ, ?_, cc⟩
            show f_X11_year_43_s _ 0 (nI d) (nI c) (nI n) (nI s) _ (nI s) τ = _
            unfold f_X11_year_43_s
            simp (disch := omega) only [↓reduceIte, kz_lt, Option.bind_some, kz_ix, kz_leT, kz_leF, kz_ltT, kz_ltF, kz_lt0, kz_0le, kz_0ltT, kz_le0F, kz_eq0F, kz_10, kz_00, kz_11, kz_01, nI_clamp, nI_1, nI_add, pk_mul, kc0, kc1, kc2, kc3, kc4, kc5, kc6, kc7, kc8, kc9, kc10, kx0, kx1, kx2, kx3, kx4, kx5, kx6, kx7, kx8, kr0_0, kr0_1, kr0_2, kr0_3, kr0_4, kr0_5, kr0_6, kr0_7, kr0_8, kr0_9, kr1_1, kr1_2, kr1_3, kr1_4, kr1_5, kr7_6, kr7_7, kr7_8, kr7_9, kr7_10, kr7_11, kr7_12, kr7_13, kr7_14, kr7_15, kr7_16, kr16_1, kr16_2, kr19_1, kr19_2, kr22_1, kr22_2, kr25_6, kr25_7, kr25_8, kr25_9, kr25_10, kr25_11, kr25_12, kr25_13, kr25_14, kr25_15, kr25_16, kr34_1, kr34_2, kr37_1, kr37_2, kr40_1, kr40_2, kr43_2, kr43_3, kr44_0, kr44_1, kr44_4, kr46_0, kr48_0, kr50_0, kr52_0, kr54_0, kr56_0, kr60_3, kr60_4, kr63_0, kr63_1, kr63_2, kr66_0, kr66_1, kr66_2, kr66_3, kr66_4, kr67_0, kr70_0, kr70_1, kr70_2, kr72_1, kr72_2, kr72_3, kr72_4, kr72_5, kr72_6, kr72_7, kl2, kl3, kl4, kl5, kl6, kl8, kl9, kl10, kl11, kl12, kl13, kl14, kl15, kl17, kl18, kl20, kl21, kl23, kl24, kl26, kl27, kl28, kl29, kl30, kl31, kl32, kl33, kl35, kl36, kl38, kl39, kl41, kl42, kl45, kl47, kl49, kl51, kl53, kl55, kl57, kl58, kl59, kl61, kl62, kl64, kl65, kl68, kl69, kl71, kl73, kl74, kl75, kl76]
          · have h' := h.ch hA cc
            obtain ⟨σ', e, c', e2⟩ := kC_after (K := (ka_S A).2.2.1) (ws := nI (kt_se (ka_T A) + i)) hA hk h' hd (show n ≤ 60 by omega) (by omega)
            have h2 := h.ch hA (cc.tr c')
            have ih := ih σ' (cc.tr c')
            show ∃ σ', f_X11_year_43_s _ 0 (nI d) (nI c) (nI n) (nI s) _ (nI i) τ = some (_, σ') ∧ _
            unfold f_X11_year_43_s f_X11_year_97
            simp (disch := omega) only [↓reduceIte, kz_lt, Option.bind_some, kz_ix, kz_leT, kz_leF, kz_ltT, kz_ltF, kz_lt0, kz_0le, kz_0ltT, kz_le0F, kz_eq0F, kz_10, kz_00, kz_11, kz_01, nI_clamp, nI_1, nI_add, pk_mul, kc0, kc1, kc2, kc3, kc4, kc5, kc6, kc7, kc8, kc9, kc10, kx0, kx1, kx2, kx3, kx4, kx5, kx6, kx7, kx8, kr0_0, kr0_1, kr0_2, kr0_3, kr0_4, kr0_5, kr0_6, kr0_7, kr0_8, kr0_9, kr1_1, kr1_2, kr1_3, kr1_4, kr1_5, kr7_6, kr7_7, kr7_8, kr7_9, kr7_10, kr7_11, kr7_12, kr7_13, kr7_14, kr7_15, kr7_16, kr16_1, kr16_2, kr19_1, kr19_2, kr22_1, kr22_2, kr25_6, kr25_7, kr25_8, kr25_9, kr25_10, kr25_11, kr25_12, kr25_13, kr25_14, kr25_15, kr25_16, kr34_1, kr34_2, kr37_1, kr37_2, kr40_1, kr40_2, kr43_2, kr43_3, kr44_0, kr44_1, kr44_4, kr46_0, kr48_0, kr50_0, kr52_0, kr54_0, kr56_0, kr60_3, kr60_4, kr63_0, kr63_1, kr63_2, kr66_0, kr66_1, kr66_2, kr66_3, kr66_4, kr67_0, kr70_0, kr70_1, kr70_2, kr72_1, kr72_2, kr72_3, kr72_4, kr72_5, kr72_6, kr72_7, kl2, kl3, kl4, kl5, kl6, kl8, kl9, kl10, kl11, kl12, kl13, kl14, kl15, kl17, kl18, kl20, kl21, kl23, kl24, kl26, kl27, kl28, kl29, kl30, kl31, kl32, kl33, kl35, kl36, kl38, kl39, kl41, kl42, kl45, kl47, kl49, kl51, kl53, kl55, kl57, kl58, kl59, kl61, kl62, kl64, kl65, kl68, kl69, kl71, kl73, kl74, kl75, kl76, h'.2.1.2.2.1, h'.1.2.1.2.2, e, kC_kt hA h2 e2 (kp_dn_ok hA.1 (hA.2.1.1 d hd) hd n)]
            rw [kp_ct_s, hG i] at ih
            by_cases b : kp_kn (ka_T A) (kp_dn (ka_T A) d (ka_S A).2.2.1 (nI (kt_se (ka_T A) + i)) (ka_S A).2.2.2 n ((ka_S A).1 d)).1 = nI c
            · rw [if_pos (decide_eq_true b)] at ih
              rw [if_pos b]; exact ih
            · rw [if_neg (fun e => b (of_decide_eq_true e))] at ih
              rw [if_neg b]; exact ih
        · obtain ⟨lv, hm⟩ := h.1
          unfold f_X12_year
          simp (disch := omega) only [↓reduceIte, kz_lt, Option.bind_some, kz_ix, kz_leT, kz_leF, kz_ltT, kz_ltF, kz_lt0, kz_0le, kz_0ltT, kz_le0F, kz_eq0F, kz_10, kz_00, kz_11, kz_01, nI_clamp, nI_1, nI_add, pk_mul, kc0, kc1, kc2, kc3, kc4, kc5, kc6, kc7, kc8, kc9, kc10, kx0, kx1, kx2, kx3, kx4, kx5, kx6, kx7, kx8, kr77_1, kr77_3, kr77_5, kr77_6, kr77_7, kr77_8, kr77_9, kr77_21, kr77_22, kr77_23, kr77_24, kr77_25, kr77_26, kr77_27, kr77_28, kr77_29, kr77_30, kr77_31, kr77_32, kr77_33, kr77_34, kr77_35, kr77_36, kr77_38, kr77_39, kr77_40, kr77_41, kr77_42, kr77_44, kr77_45, kr77_46, kr77_48, kr77_49, kr77_51, kr77_52, kr77_55, kr77_57, kr77_58, kr77_59, kr77_61, kr77_62, kr77_63, kr77_64, kr77_65, kl78, kl79, kl80, kl81, kl82, kl83, kl84, kl85, kl86, kl87, kl88, kl89, kl90, kl91, kl92, kl93, kl94, kl95, kl96, kl97, kl98, kl99, kl100, kl101, kl102, kl103, kl104, kl105, kl106, kl107, kl108, kl109, kl110, kl111, kl112, kl113, kl114, kl115, kl116, kl117, kl118, kl119, kl120, kl121, kM_both hA.1 hm hd hc, kM_lg (show n ≤ 60 by omega), kn20, kM_in1 s0 hs (by decide)]
          refine kp_run (n := s) (fun i f => ∀ τ, kp_chM kp_xM kp_jM σ τ → ∃ σ', f_X12_year_35 f 77 (nI d) (nI c) (nI n) (nI s) (nI (kp_ct G i)) (nI i) τ = some (nI (kp_ct G s), σ') ∧ kp_chM kp_xM kp_jM σ σ') (by omega) (fun f τ cc => ?_) (fun i hi f ih τ cc => ?_) σ kp_chM.rf
          · refine ⟨τ, ?_, cc⟩
            show f_X12_year_35_s _ 77 (nI d) (nI c) (nI n) (nI s) _ (nI s) τ = _
            unfold f_X12_year_35_s
            simp (disch := omega) only [↓reduceIte, kz_lt, Option.bind_some, kz_ix, kz_leT, kz_leF, kz_ltT, kz_ltF, kz_lt0, kz_0le, kz_0ltT, kz_le0F, kz_eq0F, kz_10, kz_00, kz_11, kz_01, nI_clamp, nI_1, nI_add, pk_mul, kc0, kc1, kc2, kc3, kc4, kc5, kc6, kc7, kc8, kc9, kc10, kx0, kx1, kx2, kx3, kx4, kx5, kx6, kx7, kx8, kr77_1, kr77_3, kr77_5, kr77_6, kr77_7, kr77_8, kr77_9, kr77_21, kr77_22, kr77_23, kr77_24, kr77_25, kr77_26, kr77_27, kr77_28, kr77_29, kr77_30, kr77_31, kr77_32, kr77_33, kr77_34, kr77_35, kr77_36, kr77_38, kr77_39, kr77_40, kr77_41, kr77_42, kr77_44, kr77_45, kr77_46, kr77_48, kr77_49, kr77_51, kr77_52, kr77_55, kr77_57, kr77_58, kr77_59, kr77_61, kr77_62, kr77_63, kr77_64, kr77_65, kl78, kl79, kl80, kl81, kl82, kl83, kl84, kl85, kl86, kl87, kl88, kl89, kl90, kl91, kl92, kl93, kl94, kl95, kl96, kl97, kl98, kl99, kl100, kl101, kl102, kl103, kl104, kl105, kl106, kl107, kl108, kl109, kl110, kl111, kl112, kl113, kl114, kl115, kl116, kl117, kl118, kl119, kl120, kl121]
          · obtain ⟨lv2, τ1, e, c', -, hm2, hs2, hw2⟩ := kM_co hA (h.ch cc)
            have q53 : τ1.1 77 53 = nI (kt_se (ka_T A)) ∧ τ1.1 77 54 = 0 := by
              rcases hw2 with ⟨-, e⟩ | ⟨e1, e2, -⟩
              · exact absurd e (kp_se1 (by omega))
              · exact ⟨e2, e1⟩
            have c2 : kp_chM kp_xM kp_jM τ (kf_wi τ1 77 53 (nI (kt_se (ka_T A) + i))) := c'.ws (by unfold kp_jM; omega)
            have hm3 : kp_MT (ka_T A) lv2 (kf_wi τ1 77 53 (nI (kt_se (ka_T A) + i))) := hm2.ch (fun r a b => kz_rowf (by omega)) (kp_wi_col (by decide) 77)
            have hs3 : kp_fS ((kf_wi τ1 77 53 (nI (kt_se (ka_T A) + i))).1 112) (ka_S A) := by rw [kz_rowf (by decide)]; exact hs2
            have hw3 : kp_wsM (kf_wi τ1 77 53 (nI (kt_se (ka_T A) + i))) (nI (kt_se (ka_T A) + i)) := Or.inr ⟨by rw [kp_wi_col (by decide)]; exact q53.2, kp_wi_same _ _ _ _, kp_se1 (by omega)⟩
            obtain ⟨τ', a1, a2, a3⟩ := kM_goes hA.1 hm3 hs3 hA.2.1.1 hw3 hdy (show n ≤ 60 by omega)
            have hm4 := hm3.chM a2 (fun r e => by omega) (by omega)
            have a4 := kM_knF hA.1 hm4 a3 (show d < 6 by omega)
            rw [kp_dyN_d _ _ _ hd] at a4
            have ih := ih τ' ((cc.tr c2).tr (kM_xg a2))
            show ∃ σ', f_X12_year_35_s _ 77 (nI d) (nI c) (nI n) (nI s) _ (nI i) τ = some (_, σ') ∧ _
            unfold f_X12_year_35_s f_X12_year_74
            simp (disch := omega) only [↓reduceIte, kz_lt, Option.bind_some, kz_ix, kz_leT, kz_leF, kz_ltT, kz_ltF, kz_lt0, kz_0le, kz_0ltT, kz_le0F, kz_eq0F, kz_10, kz_00, kz_11, kz_01, nI_clamp, nI_1, nI_add, pk_mul, kc0, kc1, kc2, kc3, kc4, kc5, kc6, kc7, kc8, kc9, kc10, kx0, kx1, kx2, kx3, kx4, kx5, kx6, kx7, kx8, kr77_1, kr77_3, kr77_5, kr77_6, kr77_7, kr77_8, kr77_9, kr77_21, kr77_22, kr77_23, kr77_24, kr77_25, kr77_26, kr77_27, kr77_28, kr77_29, kr77_30, kr77_31, kr77_32, kr77_33, kr77_34, kr77_35, kr77_36, kr77_38, kr77_39, kr77_40, kr77_41, kr77_42, kr77_44, kr77_45, kr77_46, kr77_48, kr77_49, kr77_51, kr77_52, kr77_55, kr77_57, kr77_58, kr77_59, kr77_61, kr77_62, kr77_63, kr77_64, kr77_65, kl78, kl79, kl80, kl81, kl82, kl83, kl84, kl85, kl86, kl87, kl88, kl89, kl90, kl91, kl92, kl93, kl94, kl95, kl96, kl97, kl98, kl99, kl100, kl101, kl102, kl103, kl104, kl105, kl106, kl107, kl108, kl109, kl110, kl111, kl112, kl113, kl114, kl115, kl116, kl117, kl118, kl119, kl120, kl121, e, q53.1, a1, a4]
            rw [kp_ct_s, hG i] at ih
            by_cases b : kp_kn (ka_T A) (kp_dn (ka_T A) d (ka_S A).2.2.1 (nI (kt_se (ka_T A) + i)) (ka_S A).2.2.2 n ((ka_S A).1 d)).1 = nI c
            · rw [if_pos (decide_eq_true b)] at ih
              rw [if_pos b]; exact ih
            · rw [if_neg (fun e => b (of_decide_eq_true e))] at ih
              rw [if_neg b]; exact ih
      · refine kp_qq.st (-1) (fun σ h => ?_) (fun σ h => ?_)
        · unfold f_X11_year
          simp (disch := omega) only [↓reduceIte, kz_lt, Option.bind_some, kz_ix, kz_leT, kz_leF, kz_ltT, kz_ltF, kz_lt0, kz_0le, kz_0ltT, kz_le0F, kz_eq0F, kz_10, kz_00, kz_11, kz_01, nI_clamp, nI_1, nI_add, pk_mul, kn3, kn4, kn5, kn6, kn7, kn8, kn9, kn10, kn16, kn20, kn24, kn30, kn32, kn36, kn40, kn41, kn42, kn48, kn54, kn60, kn61, kn64, kn69, kn70, kn99, kn100, kc0, kc1, kc2, kc3, kc4, kc5, kc6, kc7, kc8, kc9, kc10, kx0, kx1, kx2, kx3, kx4, kx5, kx6, kx7, kx8, kr0_0, kr0_1, kr0_2, kr0_3, kr0_4, kr0_5, kr0_6, kr0_7, kr0_8, kr0_9, kr1_1, kr1_2, kr1_3, kr1_4, kr1_5, kr7_6, kr7_7, kr7_8, kr7_9, kr7_10, kr7_11, kr7_12, kr7_13, kr7_14, kr7_15, kr7_16, kr16_1, kr16_2, kr19_1, kr19_2, kr22_1, kr22_2, kr25_6, kr25_7, kr25_8, kr25_9, kr25_10, kr25_11, kr25_12, kr25_13, kr25_14, kr25_15, kr25_16, kr34_1, kr34_2, kr37_1, kr37_2, kr40_1, kr40_2, kr43_2, kr43_3, kr44_0, kr44_1, kr44_4, kr46_0, kr48_0, kr50_0, kr52_0, kr54_0, kr56_0, kr60_3, kr60_4, kr63_0, kr63_1, kr63_2, kr66_0, kr66_1, kr66_2, kr66_3, kr66_4, kr67_0, kr70_0, kr70_1, kr70_2, kr72_1, kr72_2, kr72_3, kr72_4, kr72_5, kr72_6, kr72_7, kl2, kl3, kl4, kl5, kl6, kl8, kl9, kl10, kl11, kl12, kl13, kl14, kl15, kl17, kl18, kl20, kl21, kl23, kl24, kl26, kl27, kl28, kl29, kl30, kl31, kl32, kl33, kl35, kl36, kl38, kl39, kl41, kl42, kl45, kl47, kl49, kl51, kl53, kl55, kl57, kl58, kl59, kl61, kl62, kl64, kl65, kl68, kl69, kl71, kl73, kl74, kl75, kl76, kC_both hA h hd hc]
          rcases hw with h1 | ⟨h1, h2, -⟩
          · rw [if_pos h1]
          · rw [if_neg h1, if_neg h2]
        · obtain ⟨lv, hm⟩ := h.1
          unfold f_X12_year
          simp (disch := omega) only [↓reduceIte, kz_lt, Option.bind_some, kz_ix, kz_leT, kz_leF, kz_ltT, kz_ltF, kz_lt0, kz_0le, kz_0ltT, kz_le0F, kz_eq0F, kz_10, kz_00, kz_11, kz_01, nI_clamp, nI_1, nI_add, pk_mul, kc0, kc1, kc2, kc3, kc4, kc5, kc6, kc7, kc8, kc9, kc10, kx0, kx1, kx2, kx3, kx4, kx5, kx6, kx7, kx8, kr77_1, kr77_3, kr77_5, kr77_6, kr77_7, kr77_8, kr77_9, kr77_21, kr77_22, kr77_23, kr77_24, kr77_25, kr77_26, kr77_27, kr77_28, kr77_29, kr77_30, kr77_31, kr77_32, kr77_33, kr77_34, kr77_35, kr77_36, kr77_38, kr77_39, kr77_40, kr77_41, kr77_42, kr77_44, kr77_45, kr77_46, kr77_48, kr77_49, kr77_51, kr77_52, kr77_55, kr77_57, kr77_58, kr77_59, kr77_61, kr77_62, kr77_63, kr77_64, kr77_65, kl78, kl79, kl80, kl81, kl82, kl83, kl84, kl85, kl86, kl87, kl88, kl89, kl90, kl91, kl92, kl93, kl94, kl95, kl96, kl97, kl98, kl99, kl100, kl101, kl102, kl103, kl104, kl105, kl106, kl107, kl108, kl109, kl110, kl111, kl112, kl113, kl114, kl115, kl116, kl117, kl118, kl119, kl120, kl121, kM_both hA.1 hm hd hc, kM_lg (show n ≤ 60 by omega), kn20, kM_in1F hw]
    · refine kp_qq.st (-1) (fun σ h => ?_) (fun σ h => ?_)
      · unfold f_X11_year
        simp (disch := omega) only [↓reduceIte, kz_lt, Option.bind_some, kz_ix, kz_leT, kz_leF, kz_ltT, kz_ltF, kz_lt0, kz_0le, kz_0ltT, kz_le0F, kz_eq0F, kz_10, kz_00, kz_11, kz_01, nI_clamp, nI_1, nI_add, pk_mul, kn3, kn4, kn5, kn6, kn7, kn8, kn9, kn10, kn16, kn20, kn24, kn30, kn32, kn36, kn40, kn41, kn42, kn48, kn54, kn60, kn61, kn64, kn69, kn70, kn99, kn100, kc0, kc1, kc2, kc3, kc4, kc5, kc6, kc7, kc8, kc9, kc10, kx0, kx1, kx2, kx3, kx4, kx5, kx6, kx7, kx8, kr0_0, kr0_1, kr0_2, kr0_3, kr0_4, kr0_5, kr0_6, kr0_7, kr0_8, kr0_9, kr1_1, kr1_2, kr1_3, kr1_4, kr1_5, kr7_6, kr7_7, kr7_8, kr7_9, kr7_10, kr7_11, kr7_12, kr7_13, kr7_14, kr7_15, kr7_16, kr16_1, kr16_2, kr19_1, kr19_2, kr22_1, kr22_2, kr25_6, kr25_7, kr25_8, kr25_9, kr25_10, kr25_11, kr25_12, kr25_13, kr25_14, kr25_15, kr25_16, kr34_1, kr34_2, kr37_1, kr37_2, kr40_1, kr40_2, kr43_2, kr43_3, kr44_0, kr44_1, kr44_4, kr46_0, kr48_0, kr50_0, kr52_0, kr54_0, kr56_0, kr60_3, kr60_4, kr63_0, kr63_1, kr63_2, kr66_0, kr66_1, kr66_2, kr66_3, kr66_4, kr67_0, kr70_0, kr70_1, kr70_2, kr72_1, kr72_2, kr72_3, kr72_4, kr72_5, kr72_6, kr72_7, kl2, kl3, kl4, kl5, kl6, kl8, kl9, kl10, kl11, kl12, kl13, kl14, kl15, kl17, kl18, kl20, kl21, kl23, kl24, kl26, kl27, kl28, kl29, kl30, kl31, kl32, kl33, kl35, kl36, kl38, kl39, kl41, kl42, kl45, kl47, kl49, kl51, kl53, kl55, kl57, kl58, kl59, kl61, kl62, kl64, kl65, kl68, kl69, kl71, kl73, kl74, kl75, kl76, kC_both hA h hd hc]
        rcases kp_out (n := 60) (by decide) hz with h1 | ⟨h1, h2⟩
        · rw [if_pos h1]
        · rw [if_neg h1, if_pos h2]
      · obtain ⟨lv, hm⟩ := h.1
        unfold f_X12_year
        simp (disch := omega) only [↓reduceIte, kz_lt, Option.bind_some, kz_ix, kz_leT, kz_leF, kz_ltT, kz_ltF, kz_lt0, kz_0le, kz_0ltT, kz_le0F, kz_eq0F, kz_10, kz_00, kz_11, kz_01, nI_clamp, nI_1, nI_add, pk_mul, kc0, kc1, kc2, kc3, kc4, kc5, kc6, kc7, kc8, kc9, kc10, kx0, kx1, kx2, kx3, kx4, kx5, kx6, kx7, kx8, kr77_1, kr77_3, kr77_5, kr77_6, kr77_7, kr77_8, kr77_9, kr77_21, kr77_22, kr77_23, kr77_24, kr77_25, kr77_26, kr77_27, kr77_28, kr77_29, kr77_30, kr77_31, kr77_32, kr77_33, kr77_34, kr77_35, kr77_36, kr77_38, kr77_39, kr77_40, kr77_41, kr77_42, kr77_44, kr77_45, kr77_46, kr77_48, kr77_49, kr77_51, kr77_52, kr77_55, kr77_57, kr77_58, kr77_59, kr77_61, kr77_62, kr77_63, kr77_64, kr77_65, kl78, kl79, kl80, kl81, kl82, kl83, kl84, kl85, kl86, kl87, kl88, kl89, kl90, kl91, kl92, kl93, kl94, kl95, kl96, kl97, kl98, kl99, kl100, kl101, kl102, kl103, kl104, kl105, kl106, kl107, kl108, kl109, kl110, kl111, kl112, kl113, kl114, kl115, kl116, kl117, kl118, kl119, kl120, kl121, kM_both hA.1 hm hd hc, kM_lgF hz]
