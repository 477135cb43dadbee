/-! ===== pure: rubs, towards, without, richest, year ===== -/
def kp_rbn (T : kp_T) (d : Nat) : Nat → kp_D → kp_D
  | 0, D => D
  | n + 1, D => kp_rb T (kp_rbn T d n D) d
theorem kp_rbn_ok {T : kp_T} (hT : kp_Tok T) {d : Nat} {D : kp_D} (hD : kp_Dok D) (hd : d < kt_nd T) : ∀ n, kp_Dok (kp_rbn T d n D)
  | 0 => hD
  | n + 1 => kp_rb_ok hT (kp_rbn_ok hT hD hd n) hd
theorem kp_kn_n (T : kp_T) (f : Nat → Int32) : kp_kn T f = -2 ∨ ∃ j, j < kt_nc T ∧ kp_kn T f = nI j := by
  rcases kp_knS_inv (fun c => kp_un f (kt_lo T c)) (nI (kt_ne T)) (kt_nc T) with h | ⟨j, hj, e, -⟩
  · exact Or.inl h
  · exact Or.inr ⟨j, hj, e⟩
theorem kC_rt {A : kp_A} {k : Nat} (hA : kp_Aok A k) {τ : kf_St} (h : kp_Cr A τ) {d : Nat} {D : kp_D} (hd : d < kt_nd (ka_T A)) (e : kp_cD τ 67 = D) (hD : kp_Dok D) : ∃ τ', f_X4_rub 63 67 (nI d) τ = some τ' ∧ kp_ch kp_xC τ τ' ∧ kp_cD τ' 67 = kp_rb (ka_T A) D d := by
  have f := (kp_cD_f e).1
  obtain ⟨τ', a, b, c'⟩ := kp_rub hA.1 h.1 kp_isK_t hd (fun q hq => by rw [f q hq]; exact hD.1 q hq)
  rw [e] at c'
  exact ⟨τ', a, b.mono (fun r e => by unfold kp_xC; omega), c'⟩
theorem kq_rubs {A : kp_A} {k : Nat} (hA : kp_Aok A k) (x : Int32) : kp_qq A (f_X11_rubs 0 x) (f_X12_rubs 77 x) := by
  have h6 := hA.1.1.1
  have h5 := hA.1.1.2.1
  by_cases hx : kp_is x (kt_nd (ka_T A)) = true
  · obtain ⟨d, hd, rfl⟩ := kp_is_t (by omega) hx
    have ok := kp_rbn_ok hA.1 (hA.2.1.1 d hd) hd
    rcases kp_kn_n (ka_T A) ((ka_S A).1 d).1 with hn | ⟨j, hj, hn⟩
    · refine ⟨-2, fun σ h => ?_, fun σ h => ?_⟩
      · obtain ⟨τ, a1, a2, a3⟩ := kC_tr hA h hd
        refine ⟨τ, ?_, a2⟩
        unfold f_X11_rubs f_X0_rubsToChange
        simp (disch := omega) only [↓reduceIte, kz_lt, Option.bind_some, kz_ix, kz_leT, kz_leF, kz_ltT, kz_ltF, kz_lt0, kz_0le, kz_0ltT, kz_le0F, kz_eq0F, kz_10, kz_00, kz_11, kz_01, nI_clamp, nI_1, nI_add, pk_mul, kc0, kc1, kc2, kc3, kc4, kc5, kc6, kc7, kc8, kc9, kc10, kx0, kx1, kx2, kx3, kx4, kx5, kx6, kx7, kx8, kr0_0, kr0_1, kr0_2, kr0_3, kr0_4, kr0_5, kr0_6, kr0_7, kr0_8, kr0_9, kr1_1, kr1_2, kr1_3, kr1_4, kr1_5, kr7_6, kr7_7, kr7_8, kr7_9, kr7_10, kr7_11, kr7_12, kr7_13, kr7_14, kr7_15, kr7_16, kr16_1, kr16_2, kr19_1, kr19_2, kr22_1, kr22_2, kr25_6, kr25_7, kr25_8, kr25_9, kr25_10, kr25_11, kr25_12, kr25_13, kr25_14, kr25_15, kr25_16, kr34_1, kr34_2, kr37_1, kr37_2, kr40_1, kr40_2, kr43_2, kr43_3, kr44_0, kr44_1, kr44_4, kr46_0, kr48_0, kr50_0, kr52_0, kr54_0, kr56_0, kr60_3, kr60_4, kr63_0, kr63_1, kr63_2, kr66_0, kr66_1, kr66_2, kr66_3, kr66_4, kr67_0, kr70_0, kr70_1, kr70_2, kr72_1, kr72_2, kr72_3, kr72_4, kr72_5, kr72_6, kr72_7, kl2, kl3, kl4, kl5, kl6, kl8, kl9, kl10, kl11, kl12, kl13, kl14, kl15, kl17, kl18, kl20, kl21, kl23, kl24, kl26, kl27, kl28, kl29, kl30, kl31, kl32, kl33, kl35, kl36, kl38, kl39, kl41, kl42, kl45, kl47, kl49, kl51, kl53, kl55, kl57, kl58, kl59, kl61, kl62, kl64, kl65, kl68, kl69, kl71, kl73, kl74, kl75, kl76, kC_door hA h hd, kz_rf45, a1, kC_kt hA (h.ch hA a2) a3 (hA.2.1.1 d hd), hn]
        show ((f_X0_rubsToChange_33_s _ 66 (nI d) (-2) 1 τ).bind _) = _
        unfold f_X0_rubsToChange_33_s
        rfl
      · obtain ⟨lv, τ, e, c', hm, hm', hs, hw⟩ := kM_co hA h
        refine ⟨τ, ?_, c'⟩
        unfold f_X12_rubs
        simp +decide (disch := omega) only [↓reduceIte, kz_lt, Option.bind_some, kz_ix, kz_leT, kz_leF, kz_ltT, kz_ltF, kz_lt0, kz_0le, kz_0ltT, kz_le0F, kz_eq0F, kz_10, kz_00, kz_11, kz_01, nI_clamp, nI_1, nI_add, pk_mul, kc0, kc1, kc2, kc3, kc4, kc5, kc6, kc7, kc8, kc9, kc10, kx0, kx1, kx2, kx3, kx4, kx5, kx6, kx7, kx8, kr77_1, kr77_3, kr77_5, kr77_6, kr77_7, kr77_8, kr77_9, kr77_21, kr77_22, kr77_23, kr77_24, kr77_25, kr77_26, kr77_27, kr77_28, kr77_29, kr77_30, kr77_31, kr77_32, kr77_33, kr77_34, kr77_35, kr77_36, kr77_38, kr77_39, kr77_40, kr77_41, kr77_42, kr77_44, kr77_45, kr77_46, kr77_48, kr77_49, kr77_51, kr77_52, kr77_55, kr77_57, kr77_58, kr77_59, kr77_61, kr77_62, kr77_63, kr77_64, kr77_65, kl78, kl79, kl80, kl81, kl82, kl83, kl84, kl85, kl86, kl87, kl88, kl89, kl90, kl91, kl92, kl93, kl94, kl95, kl96, kl97, kl98, kl99, kl100, kl101, kl102, kl103, kl104, kl105, kl106, kl107, kl108, kl109, kl110, kl111, kl112, kl113, kl114, kl115, kl116, kl117, kl118, kl119, kl120, kl121, kM_door hA.1 hm hd, e, kM_knF hA.1 hm' hs (show d < 6 by omega), hn]
    · have hn2 : (nI j = -2) = False := kz_m2F (by omega)
      refine ⟨kp_fd (fun i => !decide (kp_kn (ka_T A) (kp_rbn (ka_T A) d i ((ka_S A).1 d)).1 = nI j)) (11 - 1) 1, ?_⟩
      generalize hg : (fun i => !decide (kp_kn (ka_T A) (kp_rbn (ka_T A) d i ((ka_S A).1 d)).1 = nI j)) = G
      have hG : ∀ i, G i = !decide (kp_kn (ka_T A) (kp_rbn (ka_T A) d i ((ka_S A).1 d)).1 = nI j) := fun i => by rw [← hg]
      refine ⟨fun σ h => ?_, fun σ h => ?_⟩
      · obtain ⟨τ, a1, a2, a3⟩ := kC_tr hA h hd
        have main : ∃ σ', f_X0_rubsToChange_33 kf_F 66 (nI d) (nI j) 1 τ = some (kp_fd G (11 - 1) 1, σ') ∧ kp_ch kp_xC σ σ' := by
          refine kp_runI (n := 11) (fun i f => ∀ τ m, i = m + 1 → kp_ch kp_xC σ τ → kp_cD τ 67 = kp_rbn (ka_T A) d m ((ka_S A).1 d) → ∃ σ', f_X0_rubsToChange_33 f 66 (nI d) (nI j) (nI i) τ = some (kp_fd G (11 - i) i, σ') ∧ kp_ch kp_xC σ σ') 1 (by decide) (by decide) (fun f τ m hm c e => ?_) (fun i hi1 hi f ih τ m hm cc e => ?_) τ 0 rfl a2 a3
          · refine ⟨τ, ?_, c⟩
            show f_X0_rubsToChange_33_s _ 66 _ _ (nI 11) τ = _
            unfold f_X0_rubsToChange_33_s
            rw [kp_fd_0]
            simp (disch := omega) only [↓reduceIte, kz_lt, Option.bind_some, kz_ix, kz_leT, kz_leF, kz_ltT, kz_ltF, kz_lt0, kz_0le, kz_0ltT, kz_le0F, kz_eq0F, kz_10, kz_00, kz_11, kz_01, nI_clamp, nI_1, nI_add, pk_mul, kn3, kn4, kn5, kn6, kn7, kn8, kn9, kn10, kn16, kn20, kn24, kn30, kn32, kn36, kn40, kn41, kn42, kn48, kn54, kn60, kn61, kn64, kn69, kn70, kn99, kn100, kc0, kc1, kc2, kc3, kc4, kc5, kc6, kc7, kc8, kc9, kc10, kx0, kx1, kx2, kx3, kx4, kx5, kx6, kx7, kx8, kr0_0, kr0_1, kr0_2, kr0_3, kr0_4, kr0_5, kr0_6, kr0_7, kr0_8, kr0_9, kr1_1, kr1_2, kr1_3, kr1_4, kr1_5, kr7_6, kr7_7, kr7_8, kr7_9, kr7_10, kr7_11, kr7_12, kr7_13, kr7_14, kr7_15, kr7_16, kr16_1, kr16_2, kr19_1, kr19_2, kr22_1, kr22_2, kr25_6, kr25_7, kr25_8, kr25_9, kr25_10, kr25_11, kr25_12, kr25_13, kr25_14, kr25_15, kr25_16, kr34_1, kr34_2, kr37_1, kr37_2, kr40_1, kr40_2, kr43_2, kr43_3, kr44_0, kr44_1, kr44_4, kr46_0, kr48_0, kr50_0, kr52_0, kr54_0, kr56_0, kr60_3, kr60_4, kr63_0, kr63_1, kr63_2, kr66_0, kr66_1, kr66_2, kr66_3, kr66_4, kr67_0, kr70_0, kr70_1, kr70_2, kr72_1, kr72_2, kr72_3, kr72_4, kr72_5, kr72_6, kr72_7, kl2, kl3, kl4, kl5, kl6, kl8, kl9, kl10, kl11, kl12, kl13, kl14, kl15, kl17, kl18, kl20, kl21, kl23, kl24, kl26, kl27, kl28, kl29, kl30, kl31, kl32, kl33, kl35, kl36, kl38, kl39, kl41, kl42, kl45, kl47, kl49, kl51, kl53, kl55, kl57, kl58, kl59, kl61, kl62, kl64, kl65, kl68, kl69, kl71, kl73, kl74, kl75, kl76]
          · subst hm
            have h' := h.ch hA cc
            obtain ⟨τ', b1, b2, b3⟩ := kC_rt hA h' hd e (ok m)
            have h2 := h.ch hA (cc.tr b2)
            have b3' : kp_cD τ' 67 = kp_rbn (ka_T A) d (m + 1) ((ka_S A).1 d) := b3
            show ∃ σ', f_X0_rubsToChange_33_s _ 66 (nI d) (nI j) (nI (m + 1)) τ = some (_, σ') ∧ _
            rw [kp_fd_s hi, hG (m + 1)]
            unfold f_X0_rubsToChange_33_s
            simp (disch := omega) only [↓reduceIte, kz_lt, Option.bind_some, kz_ix, kz_leT, kz_leF, kz_ltT, kz_ltF, kz_lt0, kz_0le, kz_0ltT, kz_le0F, kz_eq0F, kz_10, kz_00, kz_11, kz_01, nI_clamp, nI_1, nI_add, pk_mul, kn3, kn4, kn5, kn6, kn7, kn8, kn9, kn10, kn16, kn20, kn24, kn30, kn32, kn36, kn40, kn41, kn42, kn48, kn54, kn60, kn61, kn64, kn69, kn70, kn99, kn100, kc0, kc1, kc2, kc3, kc4, kc5, kc6, kc7, kc8, kc9, kc10, kx0, kx1, kx2, kx3, kx4, kx5, kx6, kx7, kx8, kr0_0, kr0_1, kr0_2, kr0_3, kr0_4, kr0_5, kr0_6, kr0_7, kr0_8, kr0_9, kr1_1, kr1_2, kr1_3, kr1_4, kr1_5, kr7_6, kr7_7, kr7_8, kr7_9, kr7_10, kr7_11, kr7_12, kr7_13, kr7_14, kr7_15, kr7_16, kr16_1, kr16_2, kr19_1, kr19_2, kr22_1, kr22_2, kr25_6, kr25_7, kr25_8, kr25_9, kr25_10, kr25_11, kr25_12, kr25_13, kr25_14, kr25_15, kr25_16, kr34_1, kr34_2, kr37_1, kr37_2, kr40_1, kr40_2, kr43_2, kr43_3, kr44_0, kr44_1, kr44_4, kr46_0, kr48_0, kr50_0, kr52_0, kr54_0, kr56_0, kr60_3, kr60_4, kr63_0, kr63_1, kr63_2, kr66_0, kr66_1, kr66_2, kr66_3, kr66_4, kr67_0, kr70_0, kr70_1, kr70_2, kr72_1, kr72_2, kr72_3, kr72_4, kr72_5, kr72_6, kr72_7, kl2, kl3, kl4, kl5, kl6, kl8, kl9, kl10, kl11, kl12, kl13, kl14, kl15, kl17, kl18, kl20, kl21, kl23, kl24, kl26, kl27, kl28, kl29, kl30, kl31, kl32, kl33, kl35, kl36, kl38, kl39, kl41, kl42, kl45, kl47, kl49, kl51, kl53, kl55, kl57, kl58, kl59, kl61, kl62, kl64, kl65, kl68, kl69, kl71, kl73, kl74, kl75, kl76, hn2, b1, kC_kt hA h2 b3' (ok (m + 1))]
            by_cases b : kp_kn (ka_T A) (kp_rbn (ka_T A) d (m + 1) ((ka_S A).1 d)).1 = nI j
            · rw [if_pos b, if_neg (by rw [decide_eq_true b]; decide)]
              exact ih τ' (m + 1) rfl (cc.tr b2) b3'
            · rw [if_neg b, if_pos (by rw [decide_eq_false b]; rfl)]
              exact ⟨τ', rfl, cc.tr b2⟩
        obtain ⟨σ', m1, m2⟩ := main
        refine ⟨σ', ?_, m2⟩
        unfold f_X11_rubs f_X0_rubsToChange
        simp (disch := omega) only [↓reduceIte, kz_lt, Option.bind_some, kz_ix, kz_leT, kz_leF, kz_ltT, kz_ltF, kz_lt0, kz_0le, kz_0ltT, kz_le0F, kz_eq0F, kz_10, kz_00, kz_11, kz_01, nI_clamp, nI_1, nI_add, pk_mul, kc0, kc1, kc2, kc3, kc4, kc5, kc6, kc7, kc8, kc9, kc10, kx0, kx1, kx2, kx3, kx4, kx5, kx6, kx7, kx8, kr0_0, kr0_1, kr0_2, kr0_3, kr0_4, kr0_5, kr0_6, kr0_7, kr0_8, kr0_9, kr1_1, kr1_2, kr1_3, kr1_4, kr1_5, kr7_6, kr7_7, kr7_8, kr7_9, kr7_10, kr7_11, kr7_12, kr7_13, kr7_14, kr7_15, kr7_16, kr16_1, kr16_2, kr19_1, kr19_2, kr22_1, kr22_2, kr25_6, kr25_7, kr25_8, kr25_9, kr25_10, kr25_11, kr25_12, kr25_13, kr25_14, kr25_15, kr25_16, kr34_1, kr34_2, kr37_1, kr37_2, kr40_1, kr40_2, kr43_2, kr43_3, kr44_0, kr44_1, kr44_4, kr46_0, kr48_0, kr50_0, kr52_0, kr54_0, kr56_0, kr60_3, kr60_4, kr63_0, kr63_1, kr63_2, kr66_0, kr66_1, kr66_2, kr66_3, kr66_4, kr67_0, kr70_0, kr70_1, kr70_2, kr72_1, kr72_2, kr72_3, kr72_4, kr72_5, kr72_6, kr72_7, kl2, kl3, kl4, kl5, kl6, kl8, kl9, kl10, kl11, kl12, kl13, kl14, kl15, kl17, kl18, kl20, kl21, kl23, kl24, kl26, kl27, kl28, kl29, kl30, kl31, kl32, kl33, kl35, kl36, kl38, kl39, kl41, kl42, kl45, kl47, kl49, kl51, kl53, kl55, kl57, kl58, kl59, kl61, kl62, kl64, kl65, kl68, kl69, kl71, kl73, kl74, kl75, kl76, kC_door hA h hd, kz_rf45, a1, kC_kt hA (h.ch hA a2) a3 (hA.2.1.1 d hd), hn, m1]
      · obtain ⟨lv, τ, e, c', hm, hm', hs, hw⟩ := kM_co hA h
        unfold f_X12_rubs
        simp (disch := omega) only [↓reduceIte, kz_lt, Option.bind_some, kz_ix, kz_leT, kz_leF, kz_ltT, kz_ltF, kz_lt0, kz_0le, kz_0ltT, kz_le0F, kz_eq0F, kz_10, kz_00, kz_11, kz_01, nI_clamp, nI_1, nI_add, pk_mul, kc0, kc1, kc2, kc3, kc4, kc5, kc6, kc7, kc8, kc9, kc10, kx0, kx1, kx2, kx3, kx4, kx5, kx6, kx7, kx8, kr77_1, kr77_3, kr77_5, kr77_6, kr77_7, kr77_8, kr77_9, kr77_21, kr77_22, kr77_23, kr77_24, kr77_25, kr77_26, kr77_27, kr77_28, kr77_29, kr77_30, kr77_31, kr77_32, kr77_33, kr77_34, kr77_35, kr77_36, kr77_38, kr77_39, kr77_40, kr77_41, kr77_42, kr77_44, kr77_45, kr77_46, kr77_48, kr77_49, kr77_51, kr77_52, kr77_55, kr77_57, kr77_58, kr77_59, kr77_61, kr77_62, kr77_63, kr77_64, kr77_65, kl78, kl79, kl80, kl81, kl82, kl83, kl84, kl85, kl86, kl87, kl88, kl89, kl90, kl91, kl92, kl93, kl94, kl95, kl96, kl97, kl98, kl99, kl100, kl101, kl102, kl103, kl104, kl105, kl106, kl107, kl108, kl109, kl110, kl111, kl112, kl113, kl114, kl115, kl116, kl117, kl118, kl119, kl120, kl121, kM_door hA.1 hm hd, e, kM_knF hA.1 hm' hs (show d < 6 by omega), hn]
        refine kp_runI (n := 11) (fun i f => ∀ τ' m S, i = m + 1 → kp_chM (fun r => r = 112) (fun _ => False) τ τ' → kp_fS (τ'.1 112) S → S.1 d = kp_rbn (ka_T A) d m ((ka_S A).1 d) → ∃ σ', f_X12_rubs_29 f 77 (nI d) (nI j) (nI i) τ' = some (kp_fd G (11 - i) i, σ') ∧ kp_chM kp_xM kp_jM σ σ') 1 (by decide) (by decide) (fun f τ' m S hm c e eS => ?_) (fun i hi1 hi f ih τ' m S hmm cc e eS => ?_) τ 0 (ka_S A) rfl kp_chM.rf hs rfl
        · refine ⟨τ', ?_, c'.tr (c.mono (fun r e => by unfold kp_xM; omega) (fun r e => e.elim))⟩
          show f_X12_rubs_29_s _ 77 _ _ (nI 11) τ' = _
          unfold f_X12_rubs_29_s
          rw [kp_fd_0]
          simp (disch := omega) only [↓reduceIte, kz_lt, Option.bind_some, kz_ix, kz_leT, kz_leF, kz_ltT, kz_ltF, kz_lt0, kz_0le, kz_0ltT, kz_le0F, kz_eq0F, kz_10, kz_00, kz_11, kz_01, nI_clamp, nI_1, nI_add, pk_mul, kn3, kn4, kn5, kn6, kn7, kn8, kn9, kn10, kn16, kn20, kn24, kn30, kn32, kn36, kn40, kn41, kn42, kn48, kn54, kn60, kn61, kn64, kn69, kn70, kn99, kn100, kc0, kc1, kc2, kc3, kc4, kc5, kc6, kc7, kc8, kc9, kc10, kx0, kx1, kx2, kx3, kx4, kx5, kx6, kx7, kx8, kr77_1, kr77_3, kr77_5, kr77_6, kr77_7, kr77_8, kr77_9, kr77_21, kr77_22, kr77_23, kr77_24, kr77_25, kr77_26, kr77_27, kr77_28, kr77_29, kr77_30, kr77_31, kr77_32, kr77_33, kr77_34, kr77_35, kr77_36, kr77_38, kr77_39, kr77_40, kr77_41, kr77_42, kr77_44, kr77_45, kr77_46, kr77_48, kr77_49, kr77_51, kr77_52, kr77_55, kr77_57, kr77_58, kr77_59, kr77_61, kr77_62, kr77_63, kr77_64, kr77_65, kl78, kl79, kl80, kl81, kl82, kl83, kl84, kl85, kl86, kl87, kl88, kl89, kl90, kl91, kl92, kl93, kl94, kl95, kl96, kl97, kl98, kl99, kl100, kl101, kl102, kl103, kl104, kl105, kl106, kl107, kl108, kl109, kl110, kl111, kl112, kl113, kl114, kl115, kl116, kl117, kl118, kl119, kl120, kl121]
        · subst hmm
          have hm2 := hm'.chM cc (fun r e => by omega) (fun e => e)
          obtain ⟨τ2, b1, b2, b3⟩ := kM_pol hA.1 hm2 hd e
          have hm3 := hm'.chM (cc.tr b2) (fun r e => by omega) (fun e => e)
          have c2 : kp_chM kp_xM kp_jM σ τ2 := c'.tr ((cc.tr b2).mono (fun r e => by unfold kp_xM; omega) (fun r e => e.elim))
          have q : (if d = d then kp_rb (ka_T A) (S.1 d) d else S.1 d) = kp_rbn (ka_T A) d (m + 1) ((ka_S A).1 d) := by rw [if_pos rfl, eS]; rfl
          have kk := kM_knF hA.1 hm3 b3 (show d < 6 by omega)
          have kk' : f_X12_knownBy 77 (nI d) τ2 = some (kp_kn (ka_T A) (kp_rbn (ka_T A) d (m + 1) ((ka_S A).1 d)).1, τ2) := by rw [← q]; exact kk
          show ∃ σ', f_X12_rubs_29_s _ 77 (nI d) (nI j) (nI (m + 1)) τ' = some (_, σ') ∧ _
          rw [kp_fd_s hi, hG (m + 1)]
          unfold f_X12_rubs_29_s
          simp (disch := omega) only [↓reduceIte, kz_lt, Option.bind_some, kz_ix, kz_leT, kz_leF, kz_ltT, kz_ltF, kz_lt0, kz_0le, kz_0ltT, kz_le0F, kz_eq0F, kz_10, kz_00, kz_11, kz_01, nI_clamp, nI_1, nI_add, pk_mul, kn3, kn4, kn5, kn6, kn7, kn8, kn9, kn10, kn16, kn20, kn24, kn30, kn32, kn36, kn40, kn41, kn42, kn48, kn54, kn60, kn61, kn64, kn69, kn70, kn99, kn100, kc0, kc1, kc2, kc3, kc4, kc5, kc6, kc7, kc8, kc9, kc10, kx0, kx1, kx2, kx3, kx4, kx5, kx6, kx7, kx8, kr77_1, kr77_3, kr77_5, kr77_6, kr77_7, kr77_8, kr77_9, kr77_21, kr77_22, kr77_23, kr77_24, kr77_25, kr77_26, kr77_27, kr77_28, kr77_29, kr77_30, kr77_31, kr77_32, kr77_33, kr77_34, kr77_35, kr77_36, kr77_38, kr77_39, kr77_40, kr77_41, kr77_42, kr77_44, kr77_45, kr77_46, kr77_48, kr77_49, kr77_51, kr77_52, kr77_55, kr77_57, kr77_58, kr77_59, kr77_61, kr77_62, kr77_63, kr77_64, kr77_65, kl78, kl79, kl80, kl81, kl82, kl83, kl84, kl85, kl86, kl87, kl88, kl89, kl90, kl91, kl92, kl93, kl94, kl95, kl96, kl97, kl98, kl99, kl100, kl101, kl102, kl103, kl104, kl105, kl106, kl107, kl108, kl109, kl110, kl111, kl112, kl113, kl114, kl115, kl116, kl117, kl118, kl119, kl120, kl121, b1, kk']
          by_cases b : kp_kn (ka_T A) (kp_rbn (ka_T A) d (m + 1) ((ka_S A).1 d)).1 = nI j
          · rw [if_pos b, if_neg (by rw [decide_eq_true b]; decide)]
            exact ih τ2 (m + 1) _ rfl (cc.tr b2) b3 q
          · rw [if_neg b, if_pos (by rw [decide_eq_false b]; rfl)]
            exact ⟨τ2, rfl, c2⟩
  · refine kp_qq.st (-1) (fun σ h => ?_) (fun σ h => ?_)
    · unfold f_X11_rubs
      simp (disch := omega) only [↓reduceIte, kz_lt, Option.bind_some, kz_ix, kz_leT, kz_leF, kz_ltT, kz_ltF, kz_lt0, kz_0le, kz_0ltT, kz_le0F, kz_eq0F, kz_10, kz_00, kz_11, kz_01, nI_clamp, nI_1, nI_add, pk_mul, kc0, kc1, kc2, kc3, kc4, kc5, kc6, kc7, kc8, kc9, kc10, kx0, kx1, kx2, kx3, kx4, kx5, kx6, kx7, kx8, kr0_0, kr0_1, kr0_2, kr0_3, kr0_4, kr0_5, kr0_6, kr0_7, kr0_8, kr0_9, kr1_1, kr1_2, kr1_3, kr1_4, kr1_5, kr7_6, kr7_7, kr7_8, kr7_9, kr7_10, kr7_11, kr7_12, kr7_13, kr7_14, kr7_15, kr7_16, kr16_1, kr16_2, kr19_1, kr19_2, kr22_1, kr22_2, kr25_6, kr25_7, kr25_8, kr25_9, kr25_10, kr25_11, kr25_12, kr25_13, kr25_14, kr25_15, kr25_16, kr34_1, kr34_2, kr37_1, kr37_2, kr40_1, kr40_2, kr43_2, kr43_3, kr44_0, kr44_1, kr44_4, kr46_0, kr48_0, kr50_0, kr52_0, kr54_0, kr56_0, kr60_3, kr60_4, kr63_0, kr63_1, kr63_2, kr66_0, kr66_1, kr66_2, kr66_3, kr66_4, kr67_0, kr70_0, kr70_1, kr70_2, kr72_1, kr72_2, kr72_3, kr72_4, kr72_5, kr72_6, kr72_7, kl2, kl3, kl4, kl5, kl6, kl8, kl9, kl10, kl11, kl12, kl13, kl14, kl15, kl17, kl18, kl20, kl21, kl23, kl24, kl26, kl27, kl28, kl29, kl30, kl31, kl32, kl33, kl35, kl36, kl38, kl39, kl41, kl42, kl45, kl47, kl49, kl51, kl53, kl55, kl57, kl58, kl59, kl61, kl62, kl64, kl65, kl68, kl69, kl71, kl73, kl74, kl75, kl76, kC_doorF hA h hx]
    · obtain ⟨lv, hm⟩ := h.1
      unfold f_X12_rubs
      simp (disch := omega) only [↓reduceIte, kz_lt, Option.bind_some, kz_ix, kz_leT, kz_leF, kz_ltT, kz_ltF, kz_lt0, kz_0le, kz_0ltT, kz_le0F, kz_eq0F, kz_10, kz_00, kz_11, kz_01, nI_clamp, nI_1, nI_add, pk_mul, kc0, kc1, kc2, kc3, kc4, kc5, kc6, kc7, kc8, kc9, kc10, kx0, kx1, kx2, kx3, kx4, kx5, kx6, kx7, kx8, kr77_1, kr77_3, kr77_5, kr77_6, kr77_7, kr77_8, kr77_9, kr77_21, kr77_22, kr77_23, kr77_24, kr77_25, kr77_26, kr77_27, kr77_28, kr77_29, kr77_30, kr77_31, kr77_32, kr77_33, kr77_34, kr77_35, kr77_36, kr77_38, kr77_39, kr77_40, kr77_41, kr77_42, kr77_44, kr77_45, kr77_46, kr77_48, kr77_49, kr77_51, kr77_52, kr77_55, kr77_57, kr77_58, kr77_59, kr77_61, kr77_62, kr77_63, kr77_64, kr77_65, kl78, kl79, kl80, kl81, kl82, kl83, kl84, kl85, kl86, kl87, kl88, kl89, kl90, kl91, kl92, kl93, kl94, kl95, kl96, kl97, kl98, kl99, kl100, kl101, kl102, kl103, kl104, kl105, kl106, kl107, kl108, kl109, kl110, kl111, kl112, kl113, kl114, kl115, kl116, kl117, kl118, kl119, kl120, kl121, kM_doorF hA.1 hm hx]
/-! towards -/
theorem kp_am_ab (a b : Int32 × Int32) (u : Nat → Int32) (ha : a.1 < 0) (hb : b.1 < 0) : ∀ n, kp_am a u (n + 1) = kp_am b u (n + 1)
  | 0 => by rw [kp_am_s, kp_am_s]; show (if a.1 < 0 then _ else _) = (if b.1 < 0 then _ else _); rw [if_pos ha, if_pos hb]
  | n + 1 => by rw [kp_am_s a, kp_am_s b, kp_am_ab a b u ha hb n]
theorem kC_ub {A : kp_A} {k : Nat} (hA : kp_Aok A k) {σ : kf_St} (h : kp_Cr A σ) {d b c : Nat} (hd : d < kt_nd (ka_T A)) (hb : b < kt_nc (ka_T A)) (hc : c < kt_nc (ka_T A)) : ∃ σ', f_X0_unlikeBehindLift 66 (nI d) (nI b) (nI c) σ = some (kp_un (kp_lf (ka_T A) ((ka_S A).1 d) b (nI (ka_S A).2.2.2)).1 (kt_lo (ka_T A) c), σ') ∧ kp_ch kp_xC σ σ' := by
  have h6 := hA.1.1.1
  obtain ⟨τ, a1, a2, a3⟩ := kC_tr hA h hd
  have h1 := h.ch hA a2
  obtain ⟨τ', b1, b2, b3⟩ := kC_lf (dy := nI (ka_S A).2.2.2) hA h1 hb a3 (hA.2.1.1 d hd)
  refine ⟨τ', ?_, a2.tr b2⟩
  unfold f_X0_unlikeBehindLift
  simp (disch := omega) only [↓reduceIte, kz_lt, Option.bind_some, kz_ix, kz_leT, kz_leF, kz_ltT, kz_ltF, kz_lt0, kz_0le, kz_0ltT, kz_le0F, kz_eq0F, kz_10, kz_00, kz_11, kz_01, nI_clamp, nI_1, nI_add, pk_mul, kc0, kc1, kc2, kc3, kc4, kc5, kc6, kc7, kc8, kc9, kc10, kx0, kx1, kx2, kx3, kx4, kx5, kx6, kx7, kx8, kr0_0, kr0_1, kr0_2, kr0_3, kr0_4, kr0_5, kr0_6, kr0_7, kr0_8, kr0_9, kr1_1, kr1_2, kr1_3, kr1_4, kr1_5, kr7_6, kr7_7, kr7_8, kr7_9, kr7_10, kr7_11, kr7_12, kr7_13, kr7_14, kr7_15, kr7_16, kr16_1, kr16_2, kr19_1, kr19_2, kr22_1, kr22_2, kr25_6, kr25_7, kr25_8, kr25_9, kr25_10, kr25_11, kr25_12, kr25_13, kr25_14, kr25_15, kr25_16, kr34_1, kr34_2, kr37_1, kr37_2, kr40_1, kr40_2, kr43_2, kr43_3, kr44_0, kr44_1, kr44_4, kr46_0, kr48_0, kr50_0, kr52_0, kr54_0, kr56_0, kr60_3, kr60_4, kr63_0, kr63_1, kr63_2, kr66_0, kr66_1, kr66_2, kr66_3, kr66_4, kr67_0, kr70_0, kr70_1, kr70_2, kr72_1, kr72_2, kr72_3, kr72_4, kr72_5, kr72_6, kr72_7, kl2, kl3, kl4, kl5, kl6, kl8, kl9, kl10, kl11, kl12, kl13, kl14, kl15, kl17, kl18, kl20, kl21, kl23, kl24, kl26, kl27, kl28, kl29, kl30, kl31, kl32, kl33, kl35, kl36, kl38, kl39, kl41, kl42, kl45, kl47, kl49, kl51, kl53, kl55, kl57, kl58, kl59, kl61, kl62, kl64, kl65, kl68, kl69, kl71, kl73, kl74, kl75, kl76, kz_rf45, a1, h1.2.1.2.2.2, b1, kC_ut hA (h.ch hA (a2.tr b2)) b3 (kp_lf_ok hA.1 (hA.2.1.1 d hd) hb _) hc]
theorem kq_towards {A : kp_A} {k : Nat} (hA : kp_Aok A k) (x y w : Int32) : kp_qq A (f_X11_towards 0 x y w) (f_X12_towards 77 x y w) := by
  have h6 := hA.1.1.1
  have h5 := hA.1.1.2.1
  refine kp_dc x y hA.1 (fun hx => ?_) (fun d c hd hc e1 e2 => ?_)
  · refine kp_qq.st (-1) (fun σ h => ?_) (fun σ h => ?_)
    · unfold f_X11_towards
      simp (disch := omega) only [↓reduceIte, kz_lt, Option.bind_some, kz_ix, kz_leT, kz_leF, kz_ltT, kz_ltF, kz_lt0, kz_0le, kz_0ltT, kz_le0F, kz_eq0F, kz_10, kz_00, kz_11, kz_01, nI_clamp, nI_1, nI_add, pk_mul, kc0, kc1, kc2, kc3, kc4, kc5, kc6, kc7, kc8, kc9, kc10, kx0, kx1, kx2, kx3, kx4, kx5, kx6, kx7, kx8, kr0_0, kr0_1, kr0_2, kr0_3, kr0_4, kr0_5, kr0_6, kr0_7, kr0_8, kr0_9, kr1_1, kr1_2, kr1_3, kr1_4, kr1_5, kr7_6, kr7_7, kr7_8, kr7_9, kr7_10, kr7_11, kr7_12, kr7_13, kr7_14, kr7_15, kr7_16, kr16_1, kr16_2, kr19_1, kr19_2, kr22_1, kr22_2, kr25_6, kr25_7, kr25_8, kr25_9, kr25_10, kr25_11, kr25_12, kr25_13, kr25_14, kr25_15, kr25_16, kr34_1, kr34_2, kr37_1, kr37_2, kr40_1, kr40_2, kr43_2, kr43_3, kr44_0, kr44_1, kr44_4, kr46_0, kr48_0, kr50_0, kr52_0, kr54_0, kr56_0, kr60_3, kr60_4, kr63_0, kr63_1, kr63_2, kr66_0, kr66_1, kr66_2, kr66_3, kr66_4, kr67_0, kr70_0, kr70_1, kr70_2, kr72_1, kr72_2, kr72_3, kr72_4, kr72_5, kr72_6, kr72_7, kl2, kl3, kl4, kl5, kl6, kl8, kl9, kl10, kl11, kl12, kl13, kl14, kl15, kl17, kl18, kl20, kl21, kl23, kl24, kl26, kl27, kl28, kl29, kl30, kl31, kl32, kl33, kl35, kl36, kl38, kl39, kl41, kl42, kl45, kl47, kl49, kl51, kl53, kl55, kl57, kl58, kl59, kl61, kl62, kl64, kl65, kl68, kl69, kl71, kl73, kl74, kl75, kl76, kC_bothF hA h hx]
    · obtain ⟨lv, hm⟩ := h.1
      unfold f_X12_towards
      simp (disch := omega) only [↓reduceIte, kz_lt, Option.bind_some, kz_ix, kz_leT, kz_leF, kz_ltT, kz_ltF, kz_lt0, kz_0le, kz_0ltT, kz_le0F, kz_eq0F, kz_10, kz_00, kz_11, kz_01, nI_clamp, nI_1, nI_add, pk_mul, kc0, kc1, kc2, kc3, kc4, kc5, kc6, kc7, kc8, kc9, kc10, kx0, kx1, kx2, kx3, kx4, kx5, kx6, kx7, kx8, kr77_1, kr77_3, kr77_5, kr77_6, kr77_7, kr77_8, kr77_9, kr77_21, kr77_22, kr77_23, kr77_24, kr77_25, kr77_26, kr77_27, kr77_28, kr77_29, kr77_30, kr77_31, kr77_32, kr77_33, kr77_34, kr77_35, kr77_36, kr77_38, kr77_39, kr77_40, kr77_41, kr77_42, kr77_44, kr77_45, kr77_46, kr77_48, kr77_49, kr77_51, kr77_52, kr77_55, kr77_57, kr77_58, kr77_59, kr77_61, kr77_62, kr77_63, kr77_64, kr77_65, kl78, kl79, kl80, kl81, kl82, kl83, kl84, kl85, kl86, kl87, kl88, kl89, kl90, kl91, kl92, kl93, kl94, kl95, kl96, kl97, kl98, kl99, kl100, kl101, kl102, kl103, kl104, kl105, kl106, kl107, kl108, kl109, kl110, kl111, kl112, kl113, kl114, kl115, kl116, kl117, kl118, kl119, kl120, kl121, kM_bothF hA.1 hm hx]
  · subst e1 e2
    by_cases hw : kp_is w 2 = true
    · have e0 : ∀ σ : kf_St, f_X11_isPick w σ = some (1, σ) := fun σ => by rcases kp_pk hw with rfl | rfl <;> rfl
      have e1 : ∀ σ : kf_St, f_X12_in w 0 1 σ = some (1, σ) := fun σ => by rcases kp_pk hw with rfl | rfl <;> rfl
      refine ⟨kp_p2 w (kp_am (-2, 0) (fun b => kp_un (kp_lf (ka_T A) ((ka_S A).1 d) b (nI (ka_S A).2.2.2)).1 (kt_lo (ka_T A) c)) (kt_nc (ka_T A))), ?_⟩
      generalize hg : (fun b => kp_un (kp_lf (ka_T A) ((ka_S A).1 d) b (nI (ka_S A).2.2.2)).1 (kt_lo (ka_T A) c)) = u
      have hu : ∀ b, u b = kp_un (kp_lf (ka_T A) ((ka_S A).1 d) b (nI (ka_S A).2.2.2)).1 (kt_lo (ka_T A) c) := fun b => by rw [← hg]
      refine ⟨fun σ h => ?_, fun σ h => ?_⟩
      · unfold f_X11_towards
        simp (disch := omega) only [↓reduceIte, kz_lt, Option.bind_some, kz_ix, kz_leT, kz_leF, kz_ltT, kz_ltF, kz_lt0, kz_0le, kz_0ltT, kz_le0F, kz_eq0F, kz_10, kz_00, kz_11, kz_01, nI_clamp, nI_1, nI_add, pk_mul, kc0, kc1, kc2, kc3, kc4, kc5, kc6, kc7, kc8, kc9, kc10, kx0, kx1, kx2, kx3, kx4, kx5, kx6, kx7, kx8, kr0_0, kr0_1, kr0_2, kr0_3, kr0_4, kr0_5, kr0_6, kr0_7, kr0_8, kr0_9, kr1_1, kr1_2, kr1_3, kr1_4, kr1_5, kr7_6, kr7_7, kr7_8, kr7_9, kr7_10, kr7_11, kr7_12, kr7_13, kr7_14, kr7_15, kr7_16, kr16_1, kr16_2, kr19_1, kr19_2, kr22_1, kr22_2, kr25_6, kr25_7, kr25_8, kr25_9, kr25_10, kr25_11, kr25_12, kr25_13, kr25_14, kr25_15, kr25_16, kr34_1, kr34_2, kr37_1, kr37_2, kr40_1, kr40_2, kr43_2, kr43_3, kr44_0, kr44_1, kr44_4, kr46_0, kr48_0, kr50_0, kr52_0, kr54_0, kr56_0, kr60_3, kr60_4, kr63_0, kr63_1, kr63_2, kr66_0, kr66_1, kr66_2, kr66_3, kr66_4, kr67_0, kr70_0, kr70_1, kr70_2, kr72_1, kr72_2, kr72_3, kr72_4, kr72_5, kr72_6, kr72_7, kl2, kl3, kl4, kl5, kl6, kl8, kl9, kl10, kl11, kl12, kl13, kl14, kl15, kl17, kl18, kl20, kl21, kl23, kl24, kl26, kl27, kl28, kl29, kl30, kl31, kl32, kl33, kl35, kl36, kl38, kl39, kl41, kl42, kl45, kl47, kl49, kl51, kl53, kl55, kl57, kl58, kl59, kl61, kl62, kl64, kl65, kl68, kl69, kl71, kl73, kl74, kl75, kl76, kC_both hA h hd hc, e0]
        refine kp_run (n := kt_nc (ka_T A)) (fun i f => ∀ τ, kp_ch kp_xC σ τ → ∃ σ', f_X11_towards_31 f 0 (nI d) (nI c) w (kp_am (-2, 0) u i).1 (kp_am (-2, 0) u i).2 (nI i) τ = some (kp_p2 w (kp_am (-2, 0) u (kt_nc (ka_T A))), σ') ∧ kp_ch kp_xC σ σ') (by omega) (fun f τ cc => ?_) (fun i hi f ih τ cc => ?_) σ kp_ch.rf
        · have h' := h.ch hA cc
          refine ⟨τ, ?_, cc⟩
          show f_X11_towards_31_s _ 0 (nI d) (nI c) w _ _ (nI (kt_nc (ka_T A))) τ = _
          unfold f_X11_towards_31_s kp_p2
          simp (disch := omega) only [↓reduceIte, kz_lt, Option.bind_some, kz_ix, kz_leT, kz_leF, kz_ltT, kz_ltF, kz_lt0, kz_0le, kz_0ltT, kz_le0F, kz_eq0F, kz_10, kz_00, kz_11, kz_01, nI_clamp, nI_1, nI_add, pk_mul, kc0, kc1, kc2, kc3, kc4, kc5, kc6, kc7, kc8, kc9, kc10, kx0, kx1, kx2, kx3, kx4, kx5, kx6, kx7, kx8, kr0_0, kr0_1, kr0_2, kr0_3, kr0_4, kr0_5, kr0_6, kr0_7, kr0_8, kr0_9, kr1_1, kr1_2, kr1_3, kr1_4, kr1_5, kr7_6, kr7_7, kr7_8, kr7_9, kr7_10, kr7_11, kr7_12, kr7_13, kr7_14, kr7_15, kr7_16, kr16_1, kr16_2, kr19_1, kr19_2, kr22_1, kr22_2, kr25_6, kr25_7, kr25_8, kr25_9, kr25_10, kr25_11, kr25_12, kr25_13, kr25_14, kr25_15, kr25_16, kr34_1, kr34_2, kr37_1, kr37_2, kr40_1, kr40_2, kr43_2, kr43_3, kr44_0, kr44_1, kr44_4, kr46_0, kr48_0, kr50_0, kr52_0, kr54_0, kr56_0, kr60_3, kr60_4, kr63_0, kr63_1, kr63_2, kr66_0, kr66_1, kr66_2, kr66_3, kr66_4, kr67_0, kr70_0, kr70_1, kr70_2, kr72_1, kr72_2, kr72_3, kr72_4, kr72_5, kr72_6, kr72_7, kl2, kl3, kl4, kl5, kl6, kl8, kl9, kl10, kl11, kl12, kl13, kl14, kl15, kl17, kl18, kl20, kl21, kl23, kl24, kl26, kl27, kl28, kl29, kl30, kl31, kl32, kl33, kl35, kl36, kl38, kl39, kl41, kl42, kl45, kl47, kl49, kl51, kl53, kl55, kl57, kl58, kl59, kl61, kl62, kl64, kl65, kl68, kl69, kl71, kl73, kl74, kl75, kl76, h'.1.1.2.1]
          by_cases hw : w = 0
          · rw [if_pos hw, if_pos hw]
          · rw [if_neg hw, if_neg hw]
        · have h' := h.ch hA cc
          obtain ⟨τ', b1, b2⟩ := kC_ub hA h' hd hi hc
          have ih := ih τ' (cc.tr b2)
          show ∃ σ', f_X11_towards_31_s _ 0 (nI d) (nI c) w _ _ (nI i) τ = some (_, σ') ∧ _
          unfold f_X11_towards_31_s f_X11_towards_68 f_X11_towards_76
          simp (disch := omega) only [↓reduceIte, kz_lt, Option.bind_some, kz_ix, kz_leT, kz_leF, kz_ltT, kz_ltF, kz_lt0, kz_0le, kz_0ltT, kz_le0F, kz_eq0F, kz_10, kz_00, kz_11, kz_01, nI_clamp, nI_1, nI_add, pk_mul, kc0, kc1, kc2, kc3, kc4, kc5, kc6, kc7, kc8, kc9, kc10, kx0, kx1, kx2, kx3, kx4, kx5, kx6, kx7, kx8, kr0_0, kr0_1, kr0_2, kr0_3, kr0_4, kr0_5, kr0_6, kr0_7, kr0_8, kr0_9, kr1_1, kr1_2, kr1_3, kr1_4, kr1_5, kr7_6, kr7_7, kr7_8, kr7_9, kr7_10, kr7_11, kr7_12, kr7_13, kr7_14, kr7_15, kr7_16, kr16_1, kr16_2, kr19_1, kr19_2, kr22_1, kr22_2, kr25_6, kr25_7, kr25_8, kr25_9, kr25_10, kr25_11, kr25_12, kr25_13, kr25_14, kr25_15, kr25_16, kr34_1, kr34_2, kr37_1, kr37_2, kr40_1, kr40_2, kr43_2, kr43_3, kr44_0, kr44_1, kr44_4, kr46_0, kr48_0, kr50_0, kr52_0, kr54_0, kr56_0, kr60_3, kr60_4, kr63_0, kr63_1, kr63_2, kr66_0, kr66_1, kr66_2, kr66_3, kr66_4, kr67_0, kr70_0, kr70_1, kr70_2, kr72_1, kr72_2, kr72_3, kr72_4, kr72_5, kr72_6, kr72_7, kl2, kl3, kl4, kl5, kl6, kl8, kl9, kl10, kl11, kl12, kl13, kl14, kl15, kl17, kl18, kl20, kl21, kl23, kl24, kl26, kl27, kl28, kl29, kl30, kl31, kl32, kl33, kl35, kl36, kl38, kl39, kl41, kl42, kl45, kl47, kl49, kl51, kl53, kl55, kl57, kl58, kl59, kl61, kl62, kl64, kl65, kl68, kl69, kl71, kl73, kl74, kl75, kl76, h'.1.1.2.1, b1]
          rw [← hu i]
          rw [kp_am_s] at ih
          by_cases h1 : (kp_am (-2, 0) u i).1 < 0
          · rw [if_pos h1] at ih ⊢; exact ih
          · rw [if_neg h1] at ih ⊢
            by_cases h2 : (kp_am (-2, 0) u i).2 ≤ u i
            · rw [if_pos h2] at ih ⊢; exact ih
            · rw [if_neg h2] at ih ⊢; exact ih
      · obtain ⟨lv, hm⟩ := h.1
        unfold f_X12_towards
        simp (disch := omega) only [↓reduceIte, kz_lt, Option.bind_some, kz_ix, kz_leT, kz_leF, kz_ltT, kz_ltF, kz_lt0, kz_0le, kz_0ltT, kz_le0F, kz_eq0F, kz_10, kz_00, kz_11, kz_01, nI_clamp, nI_1, nI_add, pk_mul, kc0, kc1, kc2, kc3, kc4, kc5, kc6, kc7, kc8, kc9, kc10, kx0, kx1, kx2, kx3, kx4, kx5, kx6, kx7, kx8, kr77_1, kr77_3, kr77_5, kr77_6, kr77_7, kr77_8, kr77_9, kr77_21, kr77_22, kr77_23, kr77_24, kr77_25, kr77_26, kr77_27, kr77_28, kr77_29, kr77_30, kr77_31, kr77_32, kr77_33, kr77_34, kr77_35, kr77_36, kr77_38, kr77_39, kr77_40, kr77_41, kr77_42, kr77_44, kr77_45, kr77_46, kr77_48, kr77_49, kr77_51, kr77_52, kr77_55, kr77_57, kr77_58, kr77_59, kr77_61, kr77_62, kr77_63, kr77_64, kr77_65, kl78, kl79, kl80, kl81, kl82, kl83, kl84, kl85, kl86, kl87, kl88, kl89, kl90, kl91, kl92, kl93, kl94, kl95, kl96, kl97, kl98, kl99, kl100, kl101, kl102, kl103, kl104, kl105, kl106, kl107, kl108, kl109, kl110, kl111, kl112, kl113, kl114, kl115, kl116, kl117, kl118, kl119, kl120, kl121, kM_both hA.1 hm hd hc, e1]
        rw [show kp_am (-2, 0) u (kt_nc (ka_T A)) = kp_am (-1, 0) u (kt_nc (ka_T A)) by
          obtain ⟨n, hn⟩ : ∃ n, kt_nc (ka_T A) = n + 1 := ⟨kt_nc (ka_T A) - 1, by omega⟩
          rw [hn]; exact kp_am_ab _ _ u kp_m2 (by decide) n]
        refine kp_run (n := kt_nc (ka_T A)) (fun i f => ∀ τ, kp_chM kp_xM kp_jM σ τ → ∃ σ', f_X12_towards_29 f 77 (nI d) (nI c) w (kp_am (-1, 0) u i).1 (kp_am (-1, 0) u i).2 (nI i) τ = some (kp_p2 w (kp_am (-1, 0) u (kt_nc (ka_T A))), σ') ∧ kp_chM kp_xM kp_jM σ σ') (by omega) (fun f τ cc => ?_) (fun i hi f ih τ cc => ?_) σ kp_chM.rf
        · have hm' := kM_wm hm cc
          have hl := hm.1
          refine ⟨τ, ?_, cc⟩
          show f_X12_towards_29_s _ 77 (nI d) (nI c) w _ _ (nI (kt_nc (ka_T A))) τ = _
          unfold f_X12_towards_29_s kp_p2
          simp (disch := omega) only [↓reduceIte, kz_lt, Option.bind_some, kz_ix, kz_leT, kz_leF, kz_ltT, kz_ltF, kz_lt0, kz_0le, kz_0ltT, kz_le0F, kz_eq0F, kz_10, kz_00, kz_11, kz_01, nI_clamp, nI_1, nI_add, pk_mul, kc0, kc1, kc2, kc3, kc4, kc5, kc6, kc7, kc8, kc9, kc10, kx0, kx1, kx2, kx3, kx4, kx5, kx6, kx7, kx8, kr77_1, kr77_3, kr77_5, kr77_6, kr77_7, kr77_8, kr77_9, kr77_21, kr77_22, kr77_23, kr77_24, kr77_25, kr77_26, kr77_27, kr77_28, kr77_29, kr77_30, kr77_31, kr77_32, kr77_33, kr77_34, kr77_35, kr77_36, kr77_38, kr77_39, kr77_40, kr77_41, kr77_42, kr77_44, kr77_45, kr77_46, kr77_48, kr77_49, kr77_51, kr77_52, kr77_55, kr77_57, kr77_58, kr77_59, kr77_61, kr77_62, kr77_63, kr77_64, kr77_65, kl78, kl79, kl80, kl81, kl82, kl83, kl84, kl85, kl86, kl87, kl88, kl89, kl90, kl91, kl92, kl93, kl94, kl95, kl96, kl97, kl98, kl99, kl100, kl101, kl102, kl103, kl104, kl105, kl106, kl107, kl108, kl109, kl110, kl111, kl112, kl113, kl114, kl115, kl116, kl117, kl118, kl119, kl120, kl121, hm'.2.1, hm'.2.2.1.2.1]
          by_cases hw : w = 0
          · rw [if_pos hw, if_pos hw]
          · rw [if_neg hw, if_neg hw]
        · have hm' := kM_wm hm cc
          have hl := hm.1
          obtain ⟨lv2, τ1, e, c', -, hm2, hs, -⟩ := kM_co hA (h.ch cc)
          obtain ⟨τ2, b1, b2, b3⟩ := kp_lifted (d := d) hA.1 hm2 (by omega) hi hs (hA.2.1.1 d hd)
          have hm3 := hm2.chM b2 (fun r e => by omega) (by omega)
          have uu := kM_unF hA.1 hm3 b3 (show d < 6 by omega) hc
          have ih := ih τ2 ((cc.tr c').tr (kM_xg b2))
          have q : (kp_lfS (ka_T A) (ka_S A) d i).1 d = kp_lf (ka_T A) ((ka_S A).1 d) i (nI (ka_S A).2.2.2) := if_pos rfl
          rw [q, ← hu i] at uu
          show ∃ σ', f_X12_towards_29_s _ 77 (nI d) (nI c) w _ _ (nI i) τ = some (_, σ') ∧ _
          unfold f_X12_towards_29_s f_X12_towards_77 f_X12_towards_85
          simp (disch := omega) only [↓reduceIte, kz_lt, Option.bind_some, kz_ix, kz_leT, kz_leF, kz_ltT, kz_ltF, kz_lt0, kz_0le, kz_0ltT, kz_le0F, kz_eq0F, kz_10, kz_00, kz_11, kz_01, nI_clamp, nI_1, nI_add, pk_mul, kc0, kc1, kc2, kc3, kc4, kc5, kc6, kc7, kc8, kc9, kc10, kx0, kx1, kx2, kx3, kx4, kx5, kx6, kx7, kx8, kr77_1, kr77_3, kr77_5, kr77_6, kr77_7, kr77_8, kr77_9, kr77_21, kr77_22, kr77_23, kr77_24, kr77_25, kr77_26, kr77_27, kr77_28, kr77_29, kr77_30, kr77_31, kr77_32, kr77_33, kr77_34, kr77_35, kr77_36, kr77_38, kr77_39, kr77_40, kr77_41, kr77_42, kr77_44, kr77_45, kr77_46, kr77_48, kr77_49, kr77_51, kr77_52, kr77_55, kr77_57, kr77_58, kr77_59, kr77_61, kr77_62, kr77_63, kr77_64, kr77_65, kl78, kl79, kl80, kl81, kl82, kl83, kl84, kl85, kl86, kl87, kl88, kl89, kl90, kl91, kl92, kl93, kl94, kl95, kl96, kl97, kl98, kl99, kl100, kl101, kl102, kl103, kl104, kl105, kl106, kl107, kl108, kl109, kl110, kl111, kl112, kl113, kl114, kl115, kl116, kl117, kl118, kl119, kl120, kl121, hm'.2.1, hm'.2.2.1.2.1, e, b1, uu]
          rw [kp_am_s] at ih
          by_cases h1 : (kp_am (-1, 0) u i).1 < 0
          · rw [if_pos h1] at ih ⊢; exact ih
          · rw [if_neg h1] at ih ⊢
            by_cases h2 : (kp_am (-1, 0) u i).2 ≤ u i
            · rw [if_pos h2] at ih
              rw [if_neg (fun e => absurd h2 (Int32.not_le.mpr e))]; exact ih
            · rw [if_neg h2] at ih
              rw [if_pos (Int32.not_le.mp h2)]; exact ih
    · refine kp_qq.st (-1) (fun σ h => ?_) (fun σ h => ?_)
      · unfold f_X11_towards
        simp (disch := omega) only [↓reduceIte, kz_lt, Option.bind_some, kz_ix, kz_leT, kz_leF, kz_ltT, kz_ltF, kz_lt0, kz_0le, kz_0ltT, kz_le0F, kz_eq0F, kz_10, kz_00, kz_11, kz_01, nI_clamp, nI_1, nI_add, pk_mul, kc0, kc1, kc2, kc3, kc4, kc5, kc6, kc7, kc8, kc9, kc10, kx0, kx1, kx2, kx3, kx4, kx5, kx6, kx7, kx8, kr0_0, kr0_1, kr0_2, kr0_3, kr0_4, kr0_5, kr0_6, kr0_7, kr0_8, kr0_9, kr1_1, kr1_2, kr1_3, kr1_4, kr1_5, kr7_6, kr7_7, kr7_8, kr7_9, kr7_10, kr7_11, kr7_12, kr7_13, kr7_14, kr7_15, kr7_16, kr16_1, kr16_2, kr19_1, kr19_2, kr22_1, kr22_2, kr25_6, kr25_7, kr25_8, kr25_9, kr25_10, kr25_11, kr25_12, kr25_13, kr25_14, kr25_15, kr25_16, kr34_1, kr34_2, kr37_1, kr37_2, kr40_1, kr40_2, kr43_2, kr43_3, kr44_0, kr44_1, kr44_4, kr46_0, kr48_0, kr50_0, kr52_0, kr54_0, kr56_0, kr60_3, kr60_4, kr63_0, kr63_1, kr63_2, kr66_0, kr66_1, kr66_2, kr66_3, kr66_4, kr67_0, kr70_0, kr70_1, kr70_2, kr72_1, kr72_2, kr72_3, kr72_4, kr72_5, kr72_6, kr72_7, kl2, kl3, kl4, kl5, kl6, kl8, kl9, kl10, kl11, kl12, kl13, kl14, kl15, kl17, kl18, kl20, kl21, kl23, kl24, kl26, kl27, kl28, kl29, kl30, kl31, kl32, kl33, kl35, kl36, kl38, kl39, kl41, kl42, kl45, kl47, kl49, kl51, kl53, kl55, kl57, kl58, kl59, kl61, kl62, kl64, kl65, kl68, kl69, kl71, kl73, kl74, kl75, kl76, kC_both hA h hd hc, kC_pkF _ hw]
      · obtain ⟨lv, hm⟩ := h.1
        unfold f_X12_towards
        simp (disch := omega) only [↓reduceIte, kz_lt, Option.bind_some, kz_ix, kz_leT, kz_leF, kz_ltT, kz_ltF, kz_lt0, kz_0le, kz_0ltT, kz_le0F, kz_eq0F, kz_10, kz_00, kz_11, kz_01, nI_clamp, nI_1, nI_add, pk_mul, kc0, kc1, kc2, kc3, kc4, kc5, kc6, kc7, kc8, kc9, kc10, kx0, kx1, kx2, kx3, kx4, kx5, kx6, kx7, kx8, kr77_1, kr77_3, kr77_5, kr77_6, kr77_7, kr77_8, kr77_9, kr77_21, kr77_22, kr77_23, kr77_24, kr77_25, kr77_26, kr77_27, kr77_28, kr77_29, kr77_30, kr77_31, kr77_32, kr77_33, kr77_34, kr77_35, kr77_36, kr77_38, kr77_39, kr77_40, kr77_41, kr77_42, kr77_44, kr77_45, kr77_46, kr77_48, kr77_49, kr77_51, kr77_52, kr77_55, kr77_57, kr77_58, kr77_59, kr77_61, kr77_62, kr77_63, kr77_64, kr77_65, kl78, kl79, kl80, kl81, kl82, kl83, kl84, kl85, kl86, kl87, kl88, kl89, kl90, kl91, kl92, kl93, kl94, kl95, kl96, kl97, kl98, kl99, kl100, kl101, kl102, kl103, kl104, kl105, kl106, kl107, kl108, kl109, kl110, kl111, kl112, kl113, kl114, kl115, kl116, kl117, kl118, kl119, kl120, kl121, kM_both hA.1 hm hd hc, kM_pkF _ hw]
