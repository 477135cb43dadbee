/-! ===== pure: when first ===== -/
def kp_fd (g : Nat → Bool) : Nat → Nat → Int32
  | 0, _ => -2
  | m + 1, i => if g i then nI i else kp_fd g m (i + 1)
theorem kp_fd_s {g : Nat → Bool} {i n : Nat} (h : i < n) : kp_fd g (n - i) i = if g i then nI i else kp_fd g (n - (i + 1)) (i + 1) := by
  rw [show n - i = n - (i + 1) + 1 by omega]
  rfl
theorem kp_fd_0 {g : Nat → Bool} {n : Nat} : kp_fd g (n - n) n = -2 := by
  rw [Nat.sub_self]
  rfl
theorem kC_fd {A : kp_A} {k : Nat} (hA : kp_Aok A k) (hk : k ≤ 520) {σ : kf_St} (h : kp_Cr A σ) {d : Nat} (hd : d < kt_nd (ka_T A)) {who so : Int32} (hso : so = 0 ∨ so = 1) (G : Nat → Bool) (hG : ∀ i, (G i = true ↔ (if kp_kn (ka_T A) (kp_dn (ka_T A) d (ka_S A).2.2.1 (-1) (ka_S A).2.2.2 i ((ka_S A).1 d)).1 = who then (1 : Int32) else 0) = so)) : ∃ σ', f_X0_firstDay 66 (nI d) who so σ = some (kp_fd G (61 - 0) 0, σ') ∧ kp_ch kp_xC σ σ' := by
  have h6 := hA.1.1.1
  have hy := kp_day hA hk
  have hK := kp_kept hA
  obtain ⟨τ, a1, a2, a3⟩ := kC_tr hA h hd
  unfold f_X0_firstDay
  simp (disch := omega) only [↓reduceIte, kz_lt, Option.bind_some, kz_ix, kz_leT, kz_leF, kz_ltT, kz_ltF, kz_lt0, kz_0le, kz_0ltT, kz_le0F, kz_eq0F, kz_10, kz_00, kz_11, kz_01, nI_clamp, nI_1, nI_add, pk_mul, kc0, kc1, kc2, kc3, kc4, kc5, kc6, kc7, kc8, kc9, kc10, kx0, kx1, kx2, kx3, kx4, kx5, kx6, kx7, kx8, kr0_0, kr0_1, kr0_2, kr0_3, kr0_4, kr0_5, kr0_6, kr0_7, kr0_8, kr0_9, kr1_1, kr1_2, kr1_3, kr1_4, kr1_5, kr7_6, kr7_7, kr7_8, kr7_9, kr7_10, kr7_11, kr7_12, kr7_13, kr7_14, kr7_15, kr7_16, kr16_1, kr16_2, kr19_1, kr19_2, kr22_1, kr22_2, kr25_6, kr25_7, kr25_8, kr25_9, kr25_10, kr25_11, kr25_12, kr25_13, kr25_14, kr25_15, kr25_16, kr34_1, kr34_2, kr37_1, kr37_2, kr40_1, kr40_2, kr43_2, kr43_3, kr44_0, kr44_1, kr44_4, kr46_0, kr48_0, kr50_0, kr52_0, kr54_0, kr56_0, kr60_3, kr60_4, kr63_0, kr63_1, kr63_2, kr66_0, kr66_1, kr66_2, kr66_3, kr66_4, kr67_0, kr70_0, kr70_1, kr70_2, kr72_1, kr72_2, kr72_3, kr72_4, kr72_5, kr72_6, kr72_7, kl2, kl3, kl4, kl5, kl6, kl8, kl9, kl10, kl11, kl12, kl13, kl14, kl15, kl17, kl18, kl20, kl21, kl23, kl24, kl26, kl27, kl28, kl29, kl30, kl31, kl32, kl33, kl35, kl36, kl38, kl39, kl41, kl42, kl45, kl47, kl49, kl51, kl53, kl55, kl57, kl58, kl59, kl61, kl62, kl64, kl65, kl68, kl69, kl71, kl73, kl74, kl75, kl76, kz_rf45, a1]
  refine kp_run (n := 61) (fun i f => ∀ τ, kp_ch kp_xC σ τ → kp_cD τ 67 = kp_dn (ka_T A) d (ka_S A).2.2.1 (-1) (ka_S A).2.2.2 i ((ka_S A).1 d) → ∃ σ', f_X0_firstDay_19 f 66 (nI d) who so (nI i) τ = some (kp_fd G (61 - i) i, σ') ∧ kp_ch kp_xC σ σ') (by omega) (fun f τ c e => ?_) (fun i hi f ih τ c e => ?_) τ a2 a3
  · refine ⟨τ, ?_, c⟩
    show f_X0_firstDay_19_s _ 66 (nI d) who so (nI 61) τ = _
    unfold f_X0_firstDay_19_s
    rw [kp_fd_0]
    simp (disch := omega) only [↓reduceIte, kz_lt, Option.bind_some, kz_ix, kz_leT, kz_leF, kz_ltT, kz_ltF, kz_lt0, kz_0le, kz_0ltT, kz_le0F, kz_eq0F, kz_10, kz_00, kz_11, kz_01, nI_clamp, nI_1, nI_add, pk_mul, kn3, kn4, kn5, kn6, kn7, kn8, kn9, kn10, kn16, kn20, kn24, kn30, kn32, kn36, kn40, kn41, kn42, kn48, kn54, kn60, kn61, kn64, kn69, kn70, kn99, kn100, kc0, kc1, kc2, kc3, kc4, kc5, kc6, kc7, kc8, kc9, kc10, kx0, kx1, kx2, kx3, kx4, kx5, kx6, kx7, kx8, kr0_0, kr0_1, kr0_2, kr0_3, kr0_4, kr0_5, kr0_6, kr0_7, kr0_8, kr0_9, kr1_1, kr1_2, kr1_3, kr1_4, kr1_5, kr7_6, kr7_7, kr7_8, kr7_9, kr7_10, kr7_11, kr7_12, kr7_13, kr7_14, kr7_15, kr7_16, kr16_1, kr16_2, kr19_1, kr19_2, kr22_1, kr22_2, kr25_6, kr25_7, kr25_8, kr25_9, kr25_10, kr25_11, kr25_12, kr25_13, kr25_14, kr25_15, kr25_16, kr34_1, kr34_2, kr37_1, kr37_2, kr40_1, kr40_2, kr43_2, kr43_3, kr44_0, kr44_1, kr44_4, kr46_0, kr48_0, kr50_0, kr52_0, kr54_0, kr56_0, kr60_3, kr60_4, kr63_0, kr63_1, kr63_2, kr66_0, kr66_1, kr66_2, kr66_3, kr66_4, kr67_0, kr70_0, kr70_1, kr70_2, kr72_1, kr72_2, kr72_3, kr72_4, kr72_5, kr72_6, kr72_7, kl2, kl3, kl4, kl5, kl6, kl8, kl9, kl10, kl11, kl12, kl13, kl14, kl15, kl17, kl18, kl20, kl21, kl23, kl24, kl26, kl27, kl28, kl29, kl30, kl31, kl32, kl33, kl35, kl36, kl38, kl39, kl41, kl42, kl45, kl47, kl49, kl51, kl53, kl55, kl57, kl58, kl59, kl61, kl62, kl64, kl65, kl68, kl69, kl71, kl73, kl74, kl75, kl76]
  · have h' := h.ch hA c
    have ok := kp_dn_ok (K := (ka_S A).2.2.1) (ws := -1) (dy := (ka_S A).2.2.2) hA.1 (hA.2.1.1 d hd) hd i
    show ∃ σ', f_X0_firstDay_19_s _ 66 (nI d) who so (nI i) τ = some (_, σ') ∧ _
    rw [kp_fd_s hi]
    unfold f_X0_firstDay_19_s
    simp (disch := omega) only [↓reduceIte, kz_lt, Option.bind_some, kz_ix, kz_leT, kz_leF, kz_ltT, kz_ltF, kz_lt0, kz_0le, kz_0ltT, kz_le0F, kz_eq0F, kz_10, kz_00, kz_11, kz_01, nI_clamp, nI_1, nI_add, pk_mul, kn3, kn4, kn5, kn6, kn7, kn8, kn9, kn10, kn16, kn20, kn24, kn30, kn32, kn36, kn40, kn41, kn42, kn48, kn54, kn60, kn61, kn64, kn69, kn70, kn99, kn100, kc0, kc1, kc2, kc3, kc4, kc5, kc6, kc7, kc8, kc9, kc10, kx0, kx1, kx2, kx3, kx4, kx5, kx6, kx7, kx8, kr0_0, kr0_1, kr0_2, kr0_3, kr0_4, kr0_5, kr0_6, kr0_7, kr0_8, kr0_9, kr1_1, kr1_2, kr1_3, kr1_4, kr1_5, kr7_6, kr7_7, kr7_8, kr7_9, kr7_10, kr7_11, kr7_12, kr7_13, kr7_14, kr7_15, kr7_16, kr16_1, kr16_2, kr19_1, kr19_2, kr22_1, kr22_2, kr25_6, kr25_7, kr25_8, kr25_9, kr25_10, kr25_11, kr25_12, kr25_13, kr25_14, kr25_15, kr25_16, kr34_1, kr34_2, kr37_1, kr37_2, kr40_1, kr40_2, kr43_2, kr43_3, kr44_0, kr44_1, kr44_4, kr46_0, kr48_0, kr50_0, kr52_0, kr54_0, kr56_0, kr60_3, kr60_4, kr63_0, kr63_1, kr63_2, kr66_0, kr66_1, kr66_2, kr66_3, kr66_4, kr67_0, kr70_0, kr70_1, kr70_2, kr72_1, kr72_2, kr72_3, kr72_4, kr72_5, kr72_6, kr72_7, kl2, kl3, kl4, kl5, kl6, kl8, kl9, kl10, kl11, kl12, kl13, kl14, kl15, kl17, kl18, kl20, kl21, kl23, kl24, kl26, kl27, kl28, kl29, kl30, kl31, kl32, kl33, kl35, kl36, kl38, kl39, kl41, kl42, kl45, kl47, kl49, kl51, kl53, kl55, kl57, kl58, kl59, kl61, kl62, kl64, kl65, kl68, kl69, kl71, kl73, kl74, kl75, kl76, kC_kt hA h' e ok]
    have key : ∀ s : Int32, s = (if kp_kn (ka_T A) (kp_dn (ka_T A) d (ka_S A).2.2.1 (-1) (ka_S A).2.2.2 i ((ka_S A).1 d)).1 = who then (1 : Int32) else 0) → ∃ σ', f_X0_firstDay_49 (f_X0_firstDay_19 f) 66 (nI d) who so (nI i) s τ = some (if G i = true then nI i else kp_fd G (61 - (i + 1)) (i + 1), σ') ∧ kp_ch kp_xC σ σ' := by
      intro s hs
      unfold f_X0_firstDay_49
      by_cases b : s = so
      · rw [if_pos b, if_pos ((hG i).mpr (hs.symm.trans b))]
        exact ⟨τ, rfl, c⟩
      · rw [if_neg b, if_neg (fun e => b (hs.trans ((hG i).mp e)))]
        obtain ⟨τ', b1, b2, b3⟩ := kC_pd (ws := -1) hA h' (dy := (ka_S A).2.2.2 + i) hd e ok (by omega) (show (ka_S A).2.2.1 < 2 ^ 31 by omega)
        obtain ⟨σ', c1, c2⟩ := ih τ' (c.tr b2) b3
        refine ⟨σ', ?_, c2⟩
        simp (disch := omega) only [↓reduceIte, kz_lt, Option.bind_some, kz_ix, kz_leT, kz_leF, kz_ltT, kz_ltF, kz_lt0, kz_0le, kz_0ltT, kz_le0F, kz_eq0F, kz_10, kz_00, kz_11, kz_01, nI_clamp, nI_1, nI_add, pk_mul, kc0, kc1, kc2, kc3, kc4, kc5, kc6, kc7, kc8, kc9, kc10, kx0, kx1, kx2, kx3, kx4, kx5, kx6, kx7, kx8, kr0_0, kr0_1, kr0_2, kr0_3, kr0_4, kr0_5, kr0_6, kr0_7, kr0_8, kr0_9, kr1_1, kr1_2, kr1_3, kr1_4, kr1_5, kr7_6, kr7_7, kr7_8, kr7_9, kr7_10, kr7_11, kr7_12, kr7_13, kr7_14, kr7_15, kr7_16, kr16_1, kr16_2, kr19_1, kr19_2, kr22_1, kr22_2, kr25_6, kr25_7, kr25_8, kr25_9, kr25_10, kr25_11, kr25_12, kr25_13, kr25_14, kr25_15, kr25_16, kr34_1, kr34_2, kr37_1, kr37_2, kr40_1, kr40_2, kr43_2, kr43_3, kr44_0, kr44_1, kr44_4, kr46_0, kr48_0, kr50_0, kr52_0, kr54_0, kr56_0, kr60_3, kr60_4, kr63_0, kr63_1, kr63_2, kr66_0, kr66_1, kr66_2, kr66_3, kr66_4, kr67_0, kr70_0, kr70_1, kr70_2, kr72_1, kr72_2, kr72_3, kr72_4, kr72_5, kr72_6, kr72_7, kl2, kl3, kl4, kl5, kl6, kl8, kl9, kl10, kl11, kl12, kl13, kl14, kl15, kl17, kl18, kl20, kl21, kl23, kl24, kl26, kl27, kl28, kl29, kl30, kl31, kl32, kl33, kl35, kl36, kl38, kl39, kl41, kl42, kl45, kl47, kl49, kl51, kl53, kl55, kl57, kl58, kl59, kl61, kl62, kl64, kl65, kl68, kl69, kl71, kl73, kl74, kl75, kl76, h'.2.1.2.2.2, h'.2.1.2.2.1, b1, c1]
    by_cases b : kp_kn (ka_T A) (kp_dn (ka_T A) d (ka_S A).2.2.1 (-1) (ka_S A).2.2.2 i ((ka_S A).1 d)).1 = who
    · rw [if_pos b]; exact key 1 (if_pos b).symm
    · rw [if_neg b]; exact key 0 (if_neg b).symm
theorem kq_when {A : kp_A} {k : Nat} (hA : kp_Aok A k) (hk : k ≤ 520) (x y : Int32) : kp_qq A (f_X11_when 0 x y) (f_X12_when 77 x y) := by
  have h6 := hA.1.1.1
  have hdy := kp_day hA hk
  refine kp_dc x y hA.1 (fun hx => ?_) (fun d c hd hc e1 e2 => ?_)
  · refine kp_qq.st (-1) (fun σ h => ?_) (fun σ h => ?_)
    · unfold f_X11_when
      simp (disch := omega) only [↓reduceIte, kz_lt, Option.bind_some, kz_ix, kz_leT, kz_leF, kz_ltT, kz_ltF, kz_lt0, kz_0le, kz_0ltT, kz_le0F, kz_eq0F, kz_10, kz_00, kz_11, kz_01, nI_clamp, nI_1, nI_add, pk_mul, kc0, kc1, kc2, kc3, kc4, kc5, kc6, kc7, kc8, kc9, kc10, kx0, kx1, kx2, kx3, kx4, kx5, kx6, kx7, kx8, kr0_0, kr0_1, kr0_2, kr0_3, kr0_4, kr0_5, kr0_6, kr0_7, kr0_8, kr0_9, kr1_1, kr1_2, kr1_3, kr1_4, kr1_5, kr7_6, kr7_7, kr7_8, kr7_9, kr7_10, kr7_11, kr7_12, kr7_13, kr7_14, kr7_15, kr7_16, kr16_1, kr16_2, kr19_1, kr19_2, kr22_1, kr22_2, kr25_6, kr25_7, kr25_8, kr25_9, kr25_10, kr25_11, kr25_12, kr25_13, kr25_14, kr25_15, kr25_16, kr34_1, kr34_2, kr37_1, kr37_2, kr40_1, kr40_2, kr43_2, kr43_3, kr44_0, kr44_1, kr44_4, kr46_0, kr48_0, kr50_0, kr52_0, kr54_0, kr56_0, kr60_3, kr60_4, kr63_0, kr63_1, kr63_2, kr66_0, kr66_1, kr66_2, kr66_3, kr66_4, kr67_0, kr70_0, kr70_1, kr70_2, kr72_1, kr72_2, kr72_3, kr72_4, kr72_5, kr72_6, kr72_7, kl2, kl3, kl4, kl5, kl6, kl8, kl9, kl10, kl11, kl12, kl13, kl14, kl15, kl17, kl18, kl20, kl21, kl23, kl24, kl26, kl27, kl28, kl29, kl30, kl31, kl32, kl33, kl35, kl36, kl38, kl39, kl41, kl42, kl45, kl47, kl49, kl51, kl53, kl55, kl57, kl58, kl59, kl61, kl62, kl64, kl65, kl68, kl69, kl71, kl73, kl74, kl75, kl76, kC_bothF hA h hx]
    · obtain ⟨lv, hm⟩ := h.1
      unfold f_X12_when
      simp (disch := omega) only [↓reduceIte, kz_lt, Option.bind_some, kz_ix, kz_leT, kz_leF, kz_ltT, kz_ltF, kz_lt0, kz_0le, kz_0ltT, kz_le0F, kz_eq0F, kz_10, kz_00, kz_11, kz_01, nI_clamp, nI_1, nI_add, pk_mul, kc0, kc1, kc2, kc3, kc4, kc5, kc6, kc7, kc8, kc9, kc10, kx0, kx1, kx2, kx3, kx4, kx5, kx6, kx7, kx8, kr77_1, kr77_3, kr77_5, kr77_6, kr77_7, kr77_8, kr77_9, kr77_21, kr77_22, kr77_23, kr77_24, kr77_25, kr77_26, kr77_27, kr77_28, kr77_29, kr77_30, kr77_31, kr77_32, kr77_33, kr77_34, kr77_35, kr77_36, kr77_38, kr77_39, kr77_40, kr77_41, kr77_42, kr77_44, kr77_45, kr77_46, kr77_48, kr77_49, kr77_51, kr77_52, kr77_55, kr77_57, kr77_58, kr77_59, kr77_61, kr77_62, kr77_63, kr77_64, kr77_65, kl78, kl79, kl80, kl81, kl82, kl83, kl84, kl85, kl86, kl87, kl88, kl89, kl90, kl91, kl92, kl93, kl94, kl95, kl96, kl97, kl98, kl99, kl100, kl101, kl102, kl103, kl104, kl105, kl106, kl107, kl108, kl109, kl110, kl111, kl112, kl113, kl114, kl115, kl116, kl117, kl118, kl119, kl120, kl121, kM_bothF hA.1 hm hx]
  · subst e1 e2
    refine ⟨kp_fd (fun i => decide ((if kp_kn (ka_T A) (kp_dn (ka_T A) d (ka_S A).2.2.1 (-1) (ka_S A).2.2.2 i ((ka_S A).1 d)).1 = nI c then (1 : Int32) else 0) = 1)) (61 - 0) 0, fun σ h => ?_, fun σ h => ?_⟩
    · obtain ⟨σ', e, c'⟩ := kC_fd hA hk h hd (who := nI c) (so := 1) (Or.inr rfl) (fun i => decide ((if kp_kn (ka_T A) (kp_dn (ka_T A) d (ka_S A).2.2.1 (-1) (ka_S A).2.2.2 i ((ka_S A).1 d)).1 = nI c then (1 : Int32) else 0) = 1)) (fun i => decide_eq_true_iff)
      refine ⟨σ', ?_, c'⟩
      unfold f_X11_when
      simp (disch := omega) only [↓reduceIte, kz_lt, Option.bind_some, kz_ix, kz_leT, kz_leF, kz_ltT, kz_ltF, kz_lt0, kz_0le, kz_0ltT, kz_le0F, kz_eq0F, kz_10, kz_00, kz_11, kz_01, nI_clamp, nI_1, nI_add, pk_mul, kc0, kc1, kc2, kc3, kc4, kc5, kc6, kc7, kc8, kc9, kc10, kx0, kx1, kx2, kx3, kx4, kx5, kx6, kx7, kx8, kr0_0, kr0_1, kr0_2, kr0_3, kr0_4, kr0_5, kr0_6, kr0_7, kr0_8, kr0_9, kr1_1, kr1_2, kr1_3, kr1_4, kr1_5, kr7_6, kr7_7, kr7_8, kr7_9, kr7_10, kr7_11, kr7_12, kr7_13, kr7_14, kr7_15, kr7_16, kr16_1, kr16_2, kr19_1, kr19_2, kr22_1, kr22_2, kr25_6, kr25_7, kr25_8, kr25_9, kr25_10, kr25_11, kr25_12, kr25_13, kr25_14, kr25_15, kr25_16, kr34_1, kr34_2, kr37_1, kr37_2, kr40_1, kr40_2, kr43_2, kr43_3, kr44_0, kr44_1, kr44_4, kr46_0, kr48_0, kr50_0, kr52_0, kr54_0, kr56_0, kr60_3, kr60_4, kr63_0, kr63_1, kr63_2, kr66_0, kr66_1, kr66_2, kr66_3, kr66_4, kr67_0, kr70_0, kr70_1, kr70_2, kr72_1, kr72_2, kr72_3, kr72_4, kr72_5, kr72_6, kr72_7, kl2, kl3, kl4, kl5, kl6, kl8, kl9, kl10, kl11, kl12, kl13, kl14, kl15, kl17, kl18, kl20, kl21, kl23, kl24, kl26, kl27, kl28, kl29, kl30, kl31, kl32, kl33, kl35, kl36, kl38, kl39, kl41, kl42, kl45, kl47, kl49, kl51, kl53, kl55, kl57, kl58, kl59, kl61, kl62, kl64, kl65, kl68, kl69, kl71, kl73, kl74, kl75, kl76, kC_both hA h hd hc, e]
    · obtain ⟨lv, τ, e, c', hm, hm', hs, hw⟩ := kM_cs hA h
      unfold f_X12_when
      simp (disch := omega) only [↓reduceIte, kz_lt, Option.bind_some, kz_ix, kz_leT, kz_leF, kz_ltT, kz_ltF, kz_lt0, kz_0le, kz_0ltT, kz_le0F, kz_eq0F, kz_10, kz_00, kz_11, kz_01, nI_clamp, nI_1, nI_add, pk_mul, kc0, kc1, kc2, kc3, kc4, kc5, kc6, kc7, kc8, kc9, kc10, kx0, kx1, kx2, kx3, kx4, kx5, kx6, kx7, kx8, kr77_1, kr77_3, kr77_5, kr77_6, kr77_7, kr77_8, kr77_9, kr77_21, kr77_22, kr77_23, kr77_24, kr77_25, kr77_26, kr77_27, kr77_28, kr77_29, kr77_30, kr77_31, kr77_32, kr77_33, kr77_34, kr77_35, kr77_36, kr77_38, kr77_39, kr77_40, kr77_41, kr77_42, kr77_44, kr77_45, kr77_46, kr77_48, kr77_49, kr77_51, kr77_52, kr77_55, kr77_57, kr77_58, kr77_59, kr77_61, kr77_62, kr77_63, kr77_64, kr77_65, kl78, kl79, kl80, kl81, kl82, kl83, kl84, kl85, kl86, kl87, kl88, kl89, kl90, kl91, kl92, kl93, kl94, kl95, kl96, kl97, kl98, kl99, kl100, kl101, kl102, kl103, kl104, kl105, kl106, kl107, kl108, kl109, kl110, kl111, kl112, kl113, kl114, kl115, kl116, kl117, kl118, kl119, kl120, kl121, kM_both hA.1 hm hd hc, e]
      generalize hg : (fun i => decide ((if kp_kn (ka_T A) (kp_dn (ka_T A) d (ka_S A).2.2.1 (-1) (ka_S A).2.2.2 i ((ka_S A).1 d)).1 = nI c then (1 : Int32) else 0) = 1)) = G
      have hG : ∀ i, G i = decide ((if kp_kn (ka_T A) (kp_dn (ka_T A) d (ka_S A).2.2.1 (-1) (ka_S A).2.2.2 i ((ka_S A).1 d)).1 = nI c then (1 : Int32) else 0) = 1) := fun i => by rw [← hg]
      refine kp_run (n := 61) (fun i f => ∀ τ', kp_chM (fun r => r = 109 ∨ r = 110 ∨ r = 112 ∨ r = 113) (fun j => j = 50) τ τ' → kp_fS (τ'.1 112) (kp_dyN (ka_T A) (-1) i (ka_S A)) → ∃ σ', f_X12_when_17 f 77 (nI d) (nI c) (nI i) τ' = some (kp_fd G (61 - i) i, σ') ∧ kp_chM kp_xM kp_jM σ σ') (by omega) (fun f τ' cc hS => ?_) (fun i hi f ih τ' cc hS => ?_) τ kp_chM.rf hs
      · refine ⟨τ', ?_, c'.tr (kM_xg cc)⟩
        show f_X12_when_17_s _ 77 (nI d) (nI c) (nI 61) τ' = _
        unfold f_X12_when_17_s
        rw [kp_fd_0]
        simp (disch := omega) only [↓reduceIte, kz_lt, Option.bind_some, kz_ix, kz_leT, kz_leF, kz_ltT, kz_ltF, kz_lt0, kz_0le, kz_0ltT, kz_le0F, kz_eq0F, kz_10, kz_00, kz_11, kz_01, nI_clamp, nI_1, nI_add, pk_mul, kn3, kn4, kn5, kn6, kn7, kn8, kn9, kn10, kn16, kn20, kn24, kn30, kn32, kn36, kn40, kn41, kn42, kn48, kn54, kn60, kn61, kn64, kn69, kn70, kn99, kn100, kc0, kc1, kc2, kc3, kc4, kc5, kc6, kc7, kc8, kc9, kc10, kx0, kx1, kx2, kx3, kx4, kx5, kx6, kx7, kx8, kr77_1, kr77_3, kr77_5, kr77_6, kr77_7, kr77_8, kr77_9, kr77_21, kr77_22, kr77_23, kr77_24, kr77_25, kr77_26, kr77_27, kr77_28, kr77_29, kr77_30, kr77_31, kr77_32, kr77_33, kr77_34, kr77_35, kr77_36, kr77_38, kr77_39, kr77_40, kr77_41, kr77_42, kr77_44, kr77_45, kr77_46, kr77_48, kr77_49, kr77_51, kr77_52, kr77_55, kr77_57, kr77_58, kr77_59, kr77_61, kr77_62, kr77_63, kr77_64, kr77_65, kl78, kl79, kl80, kl81, kl82, kl83, kl84, kl85, kl86, kl87, kl88, kl89, kl90, kl91, kl92, kl93, kl94, kl95, kl96, kl97, kl98, kl99, kl100, kl101, kl102, kl103, kl104, kl105, kl106, kl107, kl108, kl109, kl110, kl111, kl112, kl113, kl114, kl115, kl116, kl117, kl118, kl119, kl120, kl121]
      · have hm2 := hm'.chM cc (fun r e => by omega) (by omega)
        have hw2 := hw.ch (τ := τ') (cc.2.1 53 (by decide)) (cc.2.1 54 (by decide))
        obtain ⟨-, q⟩ := kp_dyN_2 (ka_T A) (-1) (ka_S A) i
        show ∃ σ', f_X12_when_17_s _ 77 (nI d) (nI c) (nI i) τ' = some (_, σ') ∧ _
        rw [kp_fd_s hi, hG i]
        unfold f_X12_when_17_s
        simp (disch := omega) only [↓reduceIte, kz_lt, Option.bind_some, kz_ix, kz_leT, kz_leF, kz_ltT, kz_ltF, kz_lt0, kz_0le, kz_0ltT, kz_le0F, kz_eq0F, kz_10, kz_00, kz_11, kz_01, nI_clamp, nI_1, nI_add, pk_mul, kn3, kn4, kn5, kn6, kn7, kn8, kn9, kn10, kn16, kn20, kn24, kn30, kn32, kn36, kn40, kn41, kn42, kn48, kn54, kn60, kn61, kn64, kn69, kn70, kn99, kn100, kc0, kc1, kc2, kc3, kc4, kc5, kc6, kc7, kc8, kc9, kc10, kx0, kx1, kx2, kx3, kx4, kx5, kx6, kx7, kx8, kr77_1, kr77_3, kr77_5, kr77_6, kr77_7, kr77_8, kr77_9, kr77_21, kr77_22, kr77_23, kr77_24, kr77_25, kr77_26, kr77_27, kr77_28, kr77_29, kr77_30, kr77_31, kr77_32, kr77_33, kr77_34, kr77_35, kr77_36, kr77_38, kr77_39, kr77_40, kr77_41, kr77_42, kr77_44, kr77_45, kr77_46, kr77_48, kr77_49, kr77_51, kr77_52, kr77_55, kr77_57, kr77_58, kr77_59, kr77_61, kr77_62, kr77_63, kr77_64, kr77_65, kl78, kl79, kl80, kl81, kl82, kl83, kl84, kl85, kl86, kl87, kl88, kl89, kl90, kl91, kl92, kl93, kl94, kl95, kl96, kl97, kl98, kl99, kl100, kl101, kl102, kl103, kl104, kl105, kl106, kl107, kl108, kl109, kl110, kl111, kl112, kl113, kl114, kl115, kl116, kl117, kl118, kl119, kl120, kl121, kM_knF hA.1 hm2 hS (show d < 6 by omega), kp_dyN_d _ _ _ hd]
        by_cases b : kp_kn (ka_T A) (kp_dn (ka_T A) d (ka_S A).2.2.1 (-1) (ka_S A).2.2.2 i ((ka_S A).1 d)).1 = nI c
        · rw [if_pos b, if_pos (decide_eq_true (by rw [if_pos b]))]
          exact ⟨τ', rfl, c'.tr (kM_xg cc)⟩
        · rw [if_neg b, if_neg (fun e => by have := of_decide_eq_true e; rw [if_neg b] at this; exact absurd this (by decide))]
          obtain ⟨τ2, b1, b2, b3⟩ := kp_dayGoes hA.1 hm2 hS (kp_dyN_ok hA.1 hA.2.1.1 i) hw2 (by rw [q]; omega)
          obtain ⟨σ', c1, c2⟩ := ih τ2 (cc.tr b2) b3
          exact ⟨σ', by rw [b1, Option.bind_some]; exact c1, c2⟩
theorem kq_changes {A : kp_A} {k : Nat} (hA : kp_Aok A k) (hk : k ≤ 520) (x : Int32) : kp_qq A (f_X11_changes 0 x) (f_X12_changes 77 x) := by
  have h6 := hA.1.1.1
  have hdy := kp_day hA hk
  by_cases hx : kp_is x (kt_nd (ka_T A)) = true
  · obtain ⟨d, hd, rfl⟩ := kp_is_t (by omega) hx
    refine ⟨kp_fd (fun i => decide ((if kp_kn (ka_T A) (kp_dn (ka_T A) d (ka_S A).2.2.1 (-1) (ka_S A).2.2.2 i ((ka_S A).1 d)).1 = kp_kn (ka_T A) ((ka_S A).1 d).1 then (1 : Int32) else 0) = 0)) (61 - 0) 0, fun σ h => ?_, fun σ h => ?_⟩
    · obtain ⟨σ', e, c'⟩ := kC_fd hA hk h hd (who := kp_kn (ka_T A) ((ka_S A).1 d).1) (so := 0) (Or.inl rfl) (fun i => decide ((if kp_kn (ka_T A) (kp_dn (ka_T A) d (ka_S A).2.2.1 (-1) (ka_S A).2.2.2 i ((ka_S A).1 d)).1 = kp_kn (ka_T A) ((ka_S A).1 d).1 then (1 : Int32) else 0) = 0)) (fun i => decide_eq_true_iff)
      refine ⟨σ', ?_, c'⟩
      unfold f_X11_changes
      simp (disch := omega) only [↓reduceIte, kz_lt, Option.bind_some, kz_ix, kz_leT, kz_leF, kz_ltT, kz_ltF, kz_lt0, kz_0le, kz_0ltT, kz_le0F, kz_eq0F, kz_10, kz_00, kz_11, kz_01, nI_clamp, nI_1, nI_add, pk_mul, kc0, kc1, kc2, kc3, kc4, kc5, kc6, kc7, kc8, kc9, kc10, kx0, kx1, kx2, kx3, kx4, kx5, kx6, kx7, kx8, kr0_0, kr0_1, kr0_2, kr0_3, kr0_4, kr0_5, kr0_6, kr0_7, kr0_8, kr0_9, kr1_1, kr1_2, kr1_3, kr1_4, kr1_5, kr7_6, kr7_7, kr7_8, kr7_9, kr7_10, kr7_11, kr7_12, kr7_13, kr7_14, kr7_15, kr7_16, kr16_1, kr16_2, kr19_1, kr19_2, kr22_1, kr22_2, kr25_6, kr25_7, kr25_8, kr25_9, kr25_10, kr25_11, kr25_12, kr25_13, kr25_14, kr25_15, kr25_16, kr34_1, kr34_2, kr37_1, kr37_2, kr40_1, kr40_2, kr43_2, kr43_3, kr44_0, kr44_1, kr44_4, kr46_0, kr48_0, kr50_0, kr52_0, kr54_0, kr56_0, kr60_3, kr60_4, kr63_0, kr63_1, kr63_2, kr66_0, kr66_1, kr66_2, kr66_3, kr66_4, kr67_0, kr70_0, kr70_1, kr70_2, kr72_1, kr72_2, kr72_3, kr72_4, kr72_5, kr72_6, kr72_7, kl2, kl3, kl4, kl5, kl6, kl8, kl9, kl10, kl11, kl12, kl13, kl14, kl15, kl17, kl18, kl20, kl21, kl23, kl24, kl26, kl27, kl28, kl29, kl30, kl31, kl32, kl33, kl35, kl36, kl38, kl39, kl41, kl42, kl45, kl47, kl49, kl51, kl53, kl55, kl57, kl58, kl59, kl61, kl62, kl64, kl65, kl68, kl69, kl71, kl73, kl74, kl75, kl76, kC_door hA h hd, kz_rf45, kz_rfK, kC_kn hA h hd, e]
    · obtain ⟨lv, τ, e, c', hm, hm', hs, hw⟩ := kM_cs hA h
      unfold f_X12_changes
      simp (disch := omega) only [↓reduceIte, kz_lt, Option.bind_some, kz_ix, kz_leT, kz_leF, kz_ltT, kz_ltF, kz_lt0, kz_0le, kz_0ltT, kz_le0F, kz_eq0F, kz_10, kz_00, kz_11, kz_01, nI_clamp, nI_1, nI_add, pk_mul, kc0, kc1, kc2, kc3, kc4, kc5, kc6, kc7, kc8, kc9, kc10, kx0, kx1, kx2, kx3, kx4, kx5, kx6, kx7, kx8, kr77_1, kr77_3, kr77_5, kr77_6, kr77_7, kr77_8, kr77_9, kr77_21, kr77_22, kr77_23, kr77_24, kr77_25, kr77_26, kr77_27, kr77_28, kr77_29, kr77_30, kr77_31, kr77_32, kr77_33, kr77_34, kr77_35, kr77_36, kr77_38, kr77_39, kr77_40, kr77_41, kr77_42, kr77_44, kr77_45, kr77_46, kr77_48, kr77_49, kr77_51, kr77_52, kr77_55, kr77_57, kr77_58, kr77_59, kr77_61, kr77_62, kr77_63, kr77_64, kr77_65, kl78, kl79, kl80, kl81, kl82, kl83, kl84, kl85, kl86, kl87, kl88, kl89, kl90, kl91, kl92, kl93, kl94, kl95, kl96, kl97, kl98, kl99, kl100, kl101, kl102, kl103, kl104, kl105, kl106, kl107, kl108, kl109, kl110, kl111, kl112, kl113, kl114, kl115, kl116, kl117, kl118, kl119, kl120, kl121, kM_door hA.1 hm hd, e, kM_knF hA.1 hm' hs (show d < 6 by omega)]
      generalize hg : (fun i => decide ((if kp_kn (ka_T A) (kp_dn (ka_T A) d (ka_S A).2.2.1 (-1) (ka_S A).2.2.2 i ((ka_S A).1 d)).1 = kp_kn (ka_T A) ((ka_S A).1 d).1 then (1 : Int32) else 0) = 0)) = G
      have hG : ∀ i, G i = decide ((if kp_kn (ka_T A) (kp_dn (ka_T A) d (ka_S A).2.2.1 (-1) (ka_S A).2.2.2 i ((ka_S A).1 d)).1 = kp_kn (ka_T A) ((ka_S A).1 d).1 then (1 : Int32) else 0) = 0) := fun i => by rw [← hg]
      rw [kp_fd_s (show 0 < 61 by decide), if_neg (show ¬ G 0 = true from fun e => by rw [hG 0] at e; have := of_decide_eq_true e; rw [if_pos (show kp_kn (ka_T A) (kp_dn (ka_T A) d (ka_S A).2.2.1 (-1) (ka_S A).2.2.2 0 ((ka_S A).1 d)).1 = kp_kn (ka_T A) ((ka_S A).1 d).1 from rfl)] at this; exact absurd this (by decide))]
      refine kp_runI (n := 61) (fun i f => ∀ τ' j, i = j + 1 → kp_chM (fun r => r = 109 ∨ r = 110 ∨ r = 112 ∨ r = 113) (fun j => j = 50) τ τ' → kp_fS (τ'.1 112) (kp_dyN (ka_T A) (-1) j (ka_S A)) → ∃ σ', f_X12_changes_22 f 77 (nI d) (kp_kn (ka_T A) ((ka_S A).1 d).1) (nI i) τ' = some (kp_fd G (61 - i) i, σ') ∧ kp_chM kp_xM kp_jM σ σ') 1 (by decide) (by decide) (fun f τ' j hj cc hS => ?_) (fun i hi1 hi f ih τ' j hj cc hS => ?_) τ 0 rfl kp_chM.rf hs
      · refine ⟨τ', ?_, c'.tr (kM_xg cc)⟩
        show f_X12_changes_22_s _ 77 (nI d) _ (nI 61) τ' = _
        unfold f_X12_changes_22_s
        rw [kp_fd_0]
        simp (disch := omega) only [↓reduceIte, kz_lt, Option.bind_some, kz_ix, kz_leT, kz_leF, kz_ltT, kz_ltF, kz_lt0, kz_0le, kz_0ltT, kz_le0F, kz_eq0F, kz_10, kz_00, kz_11, kz_01, nI_clamp, nI_1, nI_add, pk_mul, kn3, kn4, kn5, kn6, kn7, kn8, kn9, kn10, kn16, kn20, kn24, kn30, kn32, kn36, kn40, kn41, kn42, kn48, kn54, kn60, kn61, kn64, kn69, kn70, kn99, kn100, kc0, kc1, kc2, kc3, kc4, kc5, kc6, kc7, kc8, kc9, kc10, kx0, kx1, kx2, kx3, kx4, kx5, kx6, kx7, kx8, kr77_1, kr77_3, kr77_5, kr77_6, kr77_7, kr77_8, kr77_9, kr77_21, kr77_22, kr77_23, kr77_24, kr77_25, kr77_26, kr77_27, kr77_28, kr77_29, kr77_30, kr77_31, kr77_32, kr77_33, kr77_34, kr77_35, kr77_36, kr77_38, kr77_39, kr77_40, kr77_41, kr77_42, kr77_44, kr77_45, kr77_46, kr77_48, kr77_49, kr77_51, kr77_52, kr77_55, kr77_57, kr77_58, kr77_59, kr77_61, kr77_62, kr77_63, kr77_64, kr77_65, kl78, kl79, kl80, kl81, kl82, kl83, kl84, kl85, kl86, kl87, kl88, kl89, kl90, kl91, kl92, kl93, kl94, kl95, kl96, kl97, kl98, kl99, kl100, kl101, kl102, kl103, kl104, kl105, kl106, kl107, kl108, kl109, kl110, kl111, kl112, kl113, kl114, kl115, kl116, kl117, kl118, kl119, kl120, kl121]
      · subst hj
        have hm2 := hm'.chM cc (fun r e => by omega) (by omega)
        have hw2 := hw.ch (τ := τ') (cc.2.1 53 (by decide)) (cc.2.1 54 (by decide))
        obtain ⟨-, q⟩ := kp_dyN_2 (ka_T A) (-1) (ka_S A) j
        obtain ⟨τ2, b1, b2, b3⟩ := kp_dayGoes hA.1 hm2 hS (kp_dyN_ok hA.1 hA.2.1.1 j) hw2 (by rw [q]; omega)
        have b3' : kp_fS (τ2.1 112) (kp_dyN (ka_T A) (-1) (j + 1) (ka_S A)) := b3
        have hm3 := hm'.chM (cc.tr b2) (fun r e => by omega) (by omega)
        show ∃ σ', f_X12_changes_22_s _ 77 (nI d) _ (nI (j + 1)) τ' = some (_, σ') ∧ _
        rw [kp_fd_s hi, hG (j + 1)]
        unfold f_X12_changes_22_s
        simp (disch := omega) only [↓reduceIte, kz_lt, Option.bind_some, kz_ix, kz_leT, kz_leF, kz_ltT, kz_ltF, kz_lt0, kz_0le, kz_0ltT, kz_le0F, kz_eq0F, kz_10, kz_00, kz_11, kz_01, nI_clamp, nI_1, nI_add, pk_mul, kn3, kn4, kn5, kn6, kn7, kn8, kn9, kn10, kn16, kn20, kn24, kn30, kn32, kn36, kn40, kn41, kn42, kn48, kn54, kn60, kn61, kn64, kn69, kn70, kn99, kn100, kc0, kc1, kc2, kc3, kc4, kc5, kc6, kc7, kc8, kc9, kc10, kx0, kx1, kx2, kx3, kx4, kx5, kx6, kx7, kx8, kr77_1, kr77_3, kr77_5, kr77_6, kr77_7, kr77_8, kr77_9, kr77_21, kr77_22, kr77_23, kr77_24, kr77_25, kr77_26, kr77_27, kr77_28, kr77_29, kr77_30, kr77_31, kr77_32, kr77_33, kr77_34, kr77_35, kr77_36, kr77_38, kr77_39, kr77_40, kr77_41, kr77_42, kr77_44, kr77_45, kr77_46, kr77_48, kr77_49, kr77_51, kr77_52, kr77_55, kr77_57, kr77_58, kr77_59, kr77_61, kr77_62, kr77_63, kr77_64, kr77_65, kl78, kl79, kl80, kl81, kl82, kl83, kl84, kl85, kl86, kl87, kl88, kl89, kl90, kl91, kl92, kl93, kl94, kl95, kl96, kl97, kl98, kl99, kl100, kl101, kl102, kl103, kl104, kl105, kl106, kl107, kl108, kl109, kl110, kl111, kl112, kl113, kl114, kl115, kl116, kl117, kl118, kl119, kl120, kl121, b1, kM_knF hA.1 hm3 b3' (show d < 6 by omega), kp_dyN_d _ _ _ hd]
        by_cases b : kp_kn (ka_T A) (kp_dn (ka_T A) d (ka_S A).2.2.1 (-1) (ka_S A).2.2.2 (j + 1) ((ka_S A).1 d)).1 = kp_kn (ka_T A) ((ka_S A).1 d).1
        · rw [if_pos b, if_neg (fun e => by have := of_decide_eq_true e; rw [if_pos b] at this; exact absurd this (by decide))]
          exact ih τ2 (j + 1) rfl (cc.tr b2) b3'
        · rw [if_neg b, if_pos (decide_eq_true (by rw [if_neg b]))]
          exact ⟨τ2, rfl, c'.tr (kM_xg (cc.tr b2))⟩
  · refine kp_qq.st (-1) (fun σ h => ?_) (fun σ h => ?_)
    · unfold f_X11_changes
      simp (disch := omega) only [↓reduceIte, kz_lt, Option.bind_some, kz_ix, kz_leT, kz_leF, kz_ltT, kz_ltF, kz_lt0, kz_0le, kz_0ltT, kz_le0F, kz_eq0F, kz_10, kz_00, kz_11, kz_01, nI_clamp, nI_1, nI_add, pk_mul, kc0, kc1, kc2, kc3, kc4, kc5, kc6, kc7, kc8, kc9, kc10, kx0, kx1, kx2, kx3, kx4, kx5, kx6, kx7, kx8, kr0_0, kr0_1, kr0_2, kr0_3, kr0_4, kr0_5, kr0_6, kr0_7, kr0_8, kr0_9, kr1_1, kr1_2, kr1_3, kr1_4, kr1_5, kr7_6, kr7_7, kr7_8, kr7_9, kr7_10, kr7_11, kr7_12, kr7_13, kr7_14, kr7_15, kr7_16, kr16_1, kr16_2, kr19_1, kr19_2, kr22_1, kr22_2, kr25_6, kr25_7, kr25_8, kr25_9, kr25_10, kr25_11, kr25_12, kr25_13, kr25_14, kr25_15, kr25_16, kr34_1, kr34_2, kr37_1, kr37_2, kr40_1, kr40_2, kr43_2, kr43_3, kr44_0, kr44_1, kr44_4, kr46_0, kr48_0, kr50_0, kr52_0, kr54_0, kr56_0, kr60_3, kr60_4, kr63_0, kr63_1, kr63_2, kr66_0, kr66_1, kr66_2, kr66_3, kr66_4, kr67_0, kr70_0, kr70_1, kr70_2, kr72_1, kr72_2, kr72_3, kr72_4, kr72_5, kr72_6, kr72_7, kl2, kl3, kl4, kl5, kl6, kl8, kl9, kl10, kl11, kl12, kl13, kl14, kl15, kl17, kl18, kl20, kl21, kl23, kl24, kl26, kl27, kl28, kl29, kl30, kl31, kl32, kl33, kl35, kl36, kl38, kl39, kl41, kl42, kl45, kl47, kl49, kl51, kl53, kl55, kl57, kl58, kl59, kl61, kl62, kl64, kl65, kl68, kl69, kl71, kl73, kl74, kl75, kl76, kC_doorF hA h hx]
    · obtain ⟨lv, hm⟩ := h.1
      unfold f_X12_changes
      simp (disch := omega) only [↓reduceIte, kz_lt, Option.bind_some, kz_ix, kz_leT, kz_leF, kz_ltT, kz_ltF, kz_lt0, kz_0le, kz_0ltT, kz_le0F, kz_eq0F, kz_10, kz_00, kz_11, kz_01, nI_clamp, nI_1, nI_add, pk_mul, kc0, kc1, kc2, kc3, kc4, kc5, kc6, kc7, kc8, kc9, kc10, kx0, kx1, kx2, kx3, kx4, kx5, kx6, kx7, kx8, kr77_1, kr77_3, kr77_5, kr77_6, kr77_7, kr77_8, kr77_9, kr77_21, kr77_22, kr77_23, kr77_24, kr77_25, kr77_26, kr77_27, kr77_28, kr77_29, kr77_30, kr77_31, kr77_32, kr77_33, kr77_34, kr77_35, kr77_36, kr77_38, kr77_39, kr77_40, kr77_41, kr77_42, kr77_44, kr77_45, kr77_46, kr77_48, kr77_49, kr77_51, kr77_52, kr77_55, kr77_57, kr77_58, kr77_59, kr77_61, kr77_62, kr77_63, kr77_64, kr77_65, kl78, kl79, kl80, kl81, kl82, kl83, kl84, kl85, kl86, kl87, kl88, kl89, kl90, kl91, kl92, kl93, kl94, kl95, kl96, kl97, kl98, kl99, kl100, kl101, kl102, kl103, kl104, kl105, kl106, kl107, kl108, kl109, kl110, kl111, kl112, kl113, kl114, kl115, kl116, kl117, kl118, kl119, kl120, kl121, kM_doorF hA.1 hm hx]
/-! alone -/
def kp_ln (T : kp_T) (c : Nat) (dy : Int32) : Nat → kp_D → kp_D
  | 0, D => D
  | n + 1, D => kp_lf T (kp_ln T c dy n D) c dy
theorem kp_ln_ok {T : kp_T} (hT : kp_Tok T) {c : Nat} {dy : Int32} {D : kp_D} (hD : kp_Dok D) (hc : c < kt_nc T) : ∀ n, kp_Dok (kp_ln T c dy n D)
  | 0 => hD
  | n + 1 => kp_lf_ok hT (kp_ln_ok hT hD hc n) hc dy
def kp_lnS (T : kp_T) (d c : Nat) : Nat → kp_S → kp_S
  | 0, S => S
  | n + 1, S => kp_lfS T (kp_lnS T d c n S) d c
theorem kp_lnS_2 {T : kp_T} {d c : Nat} {S : kp_S} : ∀ n, (kp_lnS T d c n S).2.2 = S.2.2
  | 0 => rfl
  | n + 1 => kp_lnS_2 n
theorem kp_lnS_d {T : kp_T} {d c : Nat} {S : kp_S} : ∀ n, (kp_lnS T d c n S).1 d = kp_ln T c (nI S.2.2.2) n (S.1 d)
  | 0 => rfl
  | n + 1 => by
    show (if d = d then kp_lf T ((kp_lnS T d c n S).1 d) c (nI (kp_lnS T d c n S).2.2.2) else _) = _
    rw [if_pos rfl, kp_lnS_2, kp_lnS_d n]
    rfl
theorem kq_alone {A : kp_A} {k : Nat} (hA : kp_Aok A k) (x y : Int32) : kp_qq A (f_X11_alone 0 x y) (f_X12_alone 77 x y) := by
  have h6 := hA.1.1.1
  refine kp_dc x y hA.1 (fun hx => ?_) (fun d c hd hc e1 e2 => ?_)
  · refine kp_qq.st (-1) (fun σ h => ?_) (fun σ h => ?_)
    · unfold f_X11_alone
      simp (disch := omega) only [↓reduceIte, kz_lt, Option.bind_some, kz_ix, kz_leT, kz_leF, kz_ltT, kz_ltF, kz_lt0, kz_0le, kz_0ltT, kz_le0F, kz_eq0F, kz_10, kz_00, kz_11, kz_01, nI_clamp, nI_1, nI_add, pk_mul, kc0, kc1, kc2, kc3, kc4, kc5, kc6, kc7, kc8, kc9, kc10, kx0, kx1, kx2, kx3, kx4, kx5, kx6, kx7, kx8, kr0_0, kr0_1, kr0_2, kr0_3, kr0_4, kr0_5, kr0_6, kr0_7, kr0_8, kr0_9, kr1_1, kr1_2, kr1_3, kr1_4, kr1_5, kr7_6, kr7_7, kr7_8, kr7_9, kr7_10, kr7_11, kr7_12, kr7_13, kr7_14, kr7_15, kr7_16, kr16_1, kr16_2, kr19_1, kr19_2, kr22_1, kr22_2, kr25_6, kr25_7, kr25_8, kr25_9, kr25_10, kr25_11, kr25_12, kr25_13, kr25_14, kr25_15, kr25_16, kr34_1, kr34_2, kr37_1, kr37_2, kr40_1, kr40_2, kr43_2, kr43_3, kr44_0, kr44_1, kr44_4, kr46_0, kr48_0, kr50_0, kr52_0, kr54_0, kr56_0, kr60_3, kr60_4, kr63_0, kr63_1, kr63_2, kr66_0, kr66_1, kr66_2, kr66_3, kr66_4, kr67_0, kr70_0, kr70_1, kr70_2, kr72_1, kr72_2, kr72_3, kr72_4, kr72_5, kr72_6, kr72_7, kl2, kl3, kl4, kl5, kl6, kl8, kl9, kl10, kl11, kl12, kl13, kl14, kl15, kl17, kl18, kl20, kl21, kl23, kl24, kl26, kl27, kl28, kl29, kl30, kl31, kl32, kl33, kl35, kl36, kl38, kl39, kl41, kl42, kl45, kl47, kl49, kl51, kl53, kl55, kl57, kl58, kl59, kl61, kl62, kl64, kl65, kl68, kl69, kl71, kl73, kl74, kl75, kl76, kC_bothF hA h hx]
    · obtain ⟨lv, hm⟩ := h.1
      unfold f_X12_alone
      simp (disch := omega) only [↓reduceIte, kz_lt, Option.bind_some, kz_ix, kz_leT, kz_leF, kz_ltT, kz_ltF, kz_lt0, kz_0le, kz_0ltT, kz_le0F, kz_eq0F, kz_10, kz_00, kz_11, kz_01, nI_clamp, nI_1, nI_add, pk_mul, kc0, kc1, kc2, kc3, kc4, kc5, kc6, kc7, kc8, kc9, kc10, kx0, kx1, kx2, kx3, kx4, kx5, kx6, kx7, kx8, kr77_1, kr77_3, kr77_5, kr77_6, kr77_7, kr77_8, kr77_9, kr77_21, kr77_22, kr77_23, kr77_24, kr77_25, kr77_26, kr77_27, kr77_28, kr77_29, kr77_30, kr77_31, kr77_32, kr77_33, kr77_34, kr77_35, kr77_36, kr77_38, kr77_39, kr77_40, kr77_41, kr77_42, kr77_44, kr77_45, kr77_46, kr77_48, kr77_49, kr77_51, kr77_52, kr77_55, kr77_57, kr77_58, kr77_59, kr77_61, kr77_62, kr77_63, kr77_64, kr77_65, kl78, kl79, kl80, kl81, kl82, kl83, kl84, kl85, kl86, kl87, kl88, kl89, kl90, kl91, kl92, kl93, kl94, kl95, kl96, kl97, kl98, kl99, kl100, kl101, kl102, kl103, kl104, kl105, kl106, kl107, kl108, kl109, kl110, kl111, kl112, kl113, kl114, kl115, kl116, kl117, kl118, kl119, kl120, kl121, kM_bothF hA.1 hm hx]
  · subst e1 e2
    have ok := kp_ln_ok (c := c) (dy := nI (ka_S A).2.2.2) hA.1 (hA.2.1.1 d hd) hc
    refine ⟨kp_fd (fun i => decide (kp_kn (ka_T A) (kp_ln (ka_T A) c (nI (ka_S A).2.2.2) i ((ka_S A).1 d)).1 = nI c)) (61 - 0) 0, ?_⟩
    generalize hg : (fun i => decide (kp_kn (ka_T A) (kp_ln (ka_T A) c (nI (ka_S A).2.2.2) i ((ka_S A).1 d)).1 = nI c)) = G
    have hG : ∀ i, G i = decide (kp_kn (ka_T A) (kp_ln (ka_T A) c (nI (ka_S A).2.2.2) i ((ka_S A).1 d)).1 = nI c) := fun i => by rw [← hg]
    refine ⟨fun σ h => ?_, fun σ h => ?_⟩
    · obtain ⟨τ, a1, a2, a3⟩ := kC_tr hA h hd
      have main : ∃ σ', f_X0_liftsAlone_18 kf_F 66 (nI c) 0 τ = some (kp_fd G (61 - 0) 0, σ') ∧ kp_ch kp_xC σ σ' := by
        refine kp_run (n := 61) (fun i f => ∀ τ, kp_ch kp_xC σ τ → kp_cD τ 67 = kp_ln (ka_T A) c (nI (ka_S A).2.2.2) i ((ka_S A).1 d) → ∃ σ', f_X0_liftsAlone_18 f 66 (nI c) (nI i) τ = some (kp_fd G (61 - i) i, σ') ∧ kp_ch kp_xC σ σ') (by omega) (fun f τ c e => ?_) (fun i hi f ih τ cc e => ?_) τ a2 a3
        · refine ⟨τ, ?_, c⟩
          show f_X0_liftsAlone_18_s _ 66 _ (nI 61) τ = _
          unfold f_X0_liftsAlone_18_s
          rw [kp_fd_0]
          simp (disch := omega) only [↓reduceIte, kz_lt, Option.bind_some, kz_ix, kz_leT, kz_leF, kz_ltT, kz_ltF, kz_lt0, kz_0le, kz_0ltT, kz_le0F, kz_eq0F, kz_10, kz_00, kz_11, kz_01, nI_clamp, nI_1, nI_add, pk_mul, kn3, kn4, kn5, kn6, kn7, kn8, kn9, kn10, kn16, kn20, kn24, kn30, kn32, kn36, kn40, kn41, kn42, kn48, kn54, kn60, kn61, kn64, kn69, kn70, kn99, kn100, kc0, kc1, kc2, kc3, kc4, kc5, kc6, kc7, kc8, kc9, kc10, kx0, kx1, kx2, kx3, kx4, kx5, kx6, kx7, kx8, kr0_0, kr0_1, kr0_2, kr0_3, kr0_4, kr0_5, kr0_6, kr0_7, kr0_8, kr0_9, kr1_1, kr1_2, kr1_3, kr1_4, kr1_5, kr7_6, kr7_7, kr7_8, kr7_9, kr7_10, kr7_11, kr7_12, kr7_13, kr7_14, kr7_15, kr7_16, kr16_1, kr16_2, kr19_1, kr19_2, kr22_1, kr22_2, kr25_6, kr25_7, kr25_8, kr25_9, kr25_10, kr25_11, kr25_12, kr25_13, kr25_14, kr25_15, kr25_16, kr34_1, kr34_2, kr37_1, kr37_2, kr40_1, kr40_2, kr43_2, kr43_3, kr44_0, kr44_1, kr44_4, kr46_0, kr48_0, kr50_0, kr52_0, kr54_0, kr56_0, kr60_3, kr60_4, kr63_0, kr63_1, kr63_2, kr66_0, kr66_1, kr66_2, kr66_3, kr66_4, kr67_0, kr70_0, kr70_1, kr70_2, kr72_1, kr72_2, kr72_3, kr72_4, kr72_5, kr72_6, kr72_7, kl2, kl3, kl4, kl5, kl6, kl8, kl9, kl10, kl11, kl12, kl13, kl14, kl15, kl17, kl18, kl20, kl21, kl23, kl24, kl26, kl27, kl28, kl29, kl30, kl31, kl32, kl33, kl35, kl36, kl38, kl39, kl41, kl42, kl45, kl47, kl49, kl51, kl53, kl55, kl57, kl58, kl59, kl61, kl62, kl64, kl65, kl68, kl69, kl71, kl73, kl74, kl75, kl76]
        · have h' := h.ch hA cc
          show ∃ σ', f_X0_liftsAlone_18_s _ 66 (nI c) (nI i) τ = some (_, σ') ∧ _
          rw [kp_fd_s hi, hG i]
          unfold f_X0_liftsAlone_18_s
          simp (disch := omega) only [↓reduceIte, kz_lt, Option.bind_some, kz_ix, kz_leT, kz_leF, kz_ltT, kz_ltF, kz_lt0, kz_0le, kz_0ltT, kz_le0F, kz_eq0F, kz_10, kz_00, kz_11, kz_01, nI_clamp, nI_1, nI_add, pk_mul, kn3, kn4, kn5, kn6, kn7, kn8, kn9, kn10, kn16, kn20, kn24, kn30, kn32, kn36, kn40, kn41, kn42, kn48, kn54, kn60, kn61, kn64, kn69, kn70, kn99, kn100, kc0, kc1, kc2, kc3, kc4, kc5, kc6, kc7, kc8, kc9, kc10, kx0, kx1, kx2, kx3, kx4, kx5, kx6, kx7, kx8, kr0_0, kr0_1, kr0_2, kr0_3, kr0_4, kr0_5, kr0_6, kr0_7, kr0_8, kr0_9, kr1_1, kr1_2, kr1_3, kr1_4, kr1_5, kr7_6, kr7_7, kr7_8, kr7_9, kr7_10, kr7_11, kr7_12, kr7_13, kr7_14, kr7_15, kr7_16, kr16_1, kr16_2, kr19_1, kr19_2, kr22_1, kr22_2, kr25_6, kr25_7, kr25_8, kr25_9, kr25_10, kr25_11, kr25_12, kr25_13, kr25_14, kr25_15, kr25_16, kr34_1, kr34_2, kr37_1, kr37_2, kr40_1, kr40_2, kr43_2, kr43_3, kr44_0, kr44_1, kr44_4, kr46_0, kr48_0, kr50_0, kr52_0, kr54_0, kr56_0, kr60_3, kr60_4, kr63_0, kr63_1, kr63_2, kr66_0, kr66_1, kr66_2, kr66_3, kr66_4, kr67_0, kr70_0, kr70_1, kr70_2, kr72_1, kr72_2, kr72_3, kr72_4, kr72_5, kr72_6, kr72_7, kl2, kl3, kl4, kl5, kl6, kl8, kl9, kl10, kl11, kl12, kl13, kl14, kl15, kl17, kl18, kl20, kl21, kl23, kl24, kl26, kl27, kl28, kl29, kl30, kl31, kl32, kl33, kl35, kl36, kl38, kl39, kl41, kl42, kl45, kl47, kl49, kl51, kl53, kl55, kl57, kl58, kl59, kl61, kl62, kl64, kl65, kl68, kl69, kl71, kl73, kl74, kl75, kl76, kC_kt hA h' e (ok i)]
          by_cases b : kp_kn (ka_T A) (kp_ln (ka_T A) c (nI (ka_S A).2.2.2) i ((ka_S A).1 d)).1 = nI c
          · rw [if_pos b, if_pos (decide_eq_true b)]; exact ⟨τ, rfl, cc⟩
          · rw [if_neg b, if_neg (fun e => b (of_decide_eq_true e))]
            obtain ⟨τ', b1, b2, b3⟩ := kC_lf (dy := nI (ka_S A).2.2.2) hA h' hc e (ok i)
            obtain ⟨σ', c1, c2⟩ := ih τ' (cc.tr b2) b3
            refine ⟨σ', ?_, c2⟩
            rw [h'.2.1.2.2.2, b1, Option.bind_some]; exact c1
      obtain ⟨σ', m1, m2⟩ := main
      refine ⟨σ', ?_, m2⟩
      unfold f_X11_alone f_X0_liftsAlone
      simp (disch := omega) only [↓reduceIte, kz_lt, Option.bind_some, kz_ix, kz_leT, kz_leF, kz_ltT, kz_ltF, kz_lt0, kz_0le, kz_0ltT, kz_le0F, kz_eq0F, kz_10, kz_00, kz_11, kz_01, nI_clamp, nI_1, nI_add, pk_mul, kc0, kc1, kc2, kc3, kc4, kc5, kc6, kc7, kc8, kc9, kc10, kx0, kx1, kx2, kx3, kx4, kx5, kx6, kx7, kx8, kr0_0, kr0_1, kr0_2, kr0_3, kr0_4, kr0_5, kr0_6, kr0_7, kr0_8, kr0_9, kr1_1, kr1_2, kr1_3, kr1_4, kr1_5, kr7_6, kr7_7, kr7_8, kr7_9, kr7_10, kr7_11, kr7_12, kr7_13, kr7_14, kr7_15, kr7_16, kr16_1, kr16_2, kr19_1, kr19_2, kr22_1, kr22_2, kr25_6, kr25_7, kr25_8, kr25_9, kr25_10, kr25_11, kr25_12, kr25_13, kr25_14, kr25_15, kr25_16, kr34_1, kr34_2, kr37_1, kr37_2, kr40_1, kr40_2, kr43_2, kr43_3, kr44_0, kr44_1, kr44_4, kr46_0, kr48_0, kr50_0, kr52_0, kr54_0, kr56_0, kr60_3, kr60_4, kr63_0, kr63_1, kr63_2, kr66_0, kr66_1, kr66_2, kr66_3, kr66_4, kr67_0, kr70_0, kr70_1, kr70_2, kr72_1, kr72_2, kr72_3, kr72_4, kr72_5, kr72_6, kr72_7, kl2, kl3, kl4, kl5, kl6, kl8, kl9, kl10, kl11, kl12, kl13, kl14, kl15, kl17, kl18, kl20, kl21, kl23, kl24, kl26, kl27, kl28, kl29, kl30, kl31, kl32, kl33, kl35, kl36, kl38, kl39, kl41, kl42, kl45, kl47, kl49, kl51, kl53, kl55, kl57, kl58, kl59, kl61, kl62, kl64, kl65, kl68, kl69, kl71, kl73, kl74, kl75, kl76, kC_both hA h hd hc, kz_rf45, a1, m1]
    · obtain ⟨lv, τ, e, c', hm, hm', hs, hw⟩ := kM_co hA h
      unfold f_X12_alone
      simp (disch := omega) only [↓reduceIte, kz_lt, Option.bind_some, kz_ix, kz_leT, kz_leF, kz_ltT, kz_ltF, kz_lt0, kz_0le, kz_0ltT, kz_le0F, kz_eq0F, kz_10, kz_00, kz_11, kz_01, nI_clamp, nI_1, nI_add, pk_mul, kc0, kc1, kc2, kc3, kc4, kc5, kc6, kc7, kc8, kc9, kc10, kx0, kx1, kx2, kx3, kx4, kx5, kx6, kx7, kx8, kr77_1, kr77_3, kr77_5, kr77_6, kr77_7, kr77_8, kr77_9, kr77_21, kr77_22, kr77_23, kr77_24, kr77_25, kr77_26, kr77_27, kr77_28, kr77_29, kr77_30, kr77_31, kr77_32, kr77_33, kr77_34, kr77_35, kr77_36, kr77_38, kr77_39, kr77_40, kr77_41, kr77_42, kr77_44, kr77_45, kr77_46, kr77_48, kr77_49, kr77_51, kr77_52, kr77_55, kr77_57, kr77_58, kr77_59, kr77_61, kr77_62, kr77_63, kr77_64, kr77_65, kl78, kl79, kl80, kl81, kl82, kl83, kl84, kl85, kl86, kl87, kl88, kl89, kl90, kl91, kl92, kl93, kl94, kl95, kl96, kl97, kl98, kl99, kl100, kl101, kl102, kl103, kl104, kl105, kl106, kl107, kl108, kl109, kl110, kl111, kl112, kl113, kl114, kl115, kl116, kl117, kl118, kl119, kl120, kl121, kM_both hA.1 hm hd hc, e]
      refine kp_run (n := 61) (fun i f => ∀ τ', kp_chM (fun r => r = 109 ∨ r = 110 ∨ r = 112 ∨ r = 113) (fun j => j = 50) τ τ' → kp_fS (τ'.1 112) (kp_lnS (ka_T A) d c i (ka_S A)) → ∃ σ', f_X12_alone_17 f 77 (nI d) (nI c) (nI i) τ' = some (kp_fd G (61 - i) i, σ') ∧ kp_chM kp_xM kp_jM σ σ') (by omega) (fun f τ' cc hS => ?_) (fun i hi f ih τ' cc hS => ?_) τ kp_chM.rf hs
      · refine ⟨τ', ?_, c'.tr (kM_xg cc)⟩
        show f_X12_alone_17_s _ 77 (nI d) (nI c) (nI 61) τ' = _
        unfold f_X12_alone_17_s
        rw [kp_fd_0]
        simp (disch := omega) only [↓reduceIte, kz_lt, Option.bind_some, kz_ix, kz_leT, kz_leF, kz_ltT, kz_ltF, kz_lt0, kz_0le, kz_0ltT, kz_le0F, kz_eq0F, kz_10, kz_00, kz_11, kz_01, nI_clamp, nI_1, nI_add, pk_mul, kn3, kn4, kn5, kn6, kn7, kn8, kn9, kn10, kn16, kn20, kn24, kn30, kn32, kn36, kn40, kn41, kn42, kn48, kn54, kn60, kn61, kn64, kn69, kn70, kn99, kn100, kc0, kc1, kc2, kc3, kc4, kc5, kc6, kc7, kc8, kc9, kc10, kx0, kx1, kx2, kx3, kx4, kx5, kx6, kx7, kx8, kr77_1, kr77_3, kr77_5, kr77_6, kr77_7, kr77_8, kr77_9, kr77_21, kr77_22, kr77_23, kr77_24, kr77_25, kr77_26, kr77_27, kr77_28, kr77_29, kr77_30, kr77_31, kr77_32, kr77_33, kr77_34, kr77_35, kr77_36, kr77_38, kr77_39, kr77_40, kr77_41, kr77_42, kr77_44, kr77_45, kr77_46, kr77_48, kr77_49, kr77_51, kr77_52, kr77_55, kr77_57, kr77_58, kr77_59, kr77_61, kr77_62, kr77_63, kr77_64, kr77_65, kl78, kl79, kl80, kl81, kl82, kl83, kl84, kl85, kl86, kl87, kl88, kl89, kl90, kl91, kl92, kl93, kl94, kl95, kl96, kl97, kl98, kl99, kl100, kl101, kl102, kl103, kl104, kl105, kl106, kl107, kl108, kl109, kl110, kl111, kl112, kl113, kl114, kl115, kl116, kl117, kl118, kl119, kl120, kl121]
      · have hm2 := hm'.chM cc (fun r e => by omega) (by omega)
        show ∃ σ', f_X12_alone_17_s _ 77 (nI d) (nI c) (nI i) τ' = some (_, σ') ∧ _
        rw [kp_fd_s hi, hG i]
        unfold f_X12_alone_17_s
        simp (disch := omega) only [↓reduceIte, kz_lt, Option.bind_some, kz_ix, kz_leT, kz_leF, kz_ltT, kz_ltF, kz_lt0, kz_0le, kz_0ltT, kz_le0F, kz_eq0F, kz_10, kz_00, kz_11, kz_01, nI_clamp, nI_1, nI_add, pk_mul, kn3, kn4, kn5, kn6, kn7, kn8, kn9, kn10, kn16, kn20, kn24, kn30, kn32, kn36, kn40, kn41, kn42, kn48, kn54, kn60, kn61, kn64, kn69, kn70, kn99, kn100, kc0, kc1, kc2, kc3, kc4, kc5, kc6, kc7, kc8, kc9, kc10, kx0, kx1, kx2, kx3, kx4, kx5, kx6, kx7, kx8, kr77_1, kr77_3, kr77_5, kr77_6, kr77_7, kr77_8, kr77_9, kr77_21, kr77_22, kr77_23, kr77_24, kr77_25, kr77_26, kr77_27, kr77_28, kr77_29, kr77_30, kr77_31, kr77_32, kr77_33, kr77_34, kr77_35, kr77_36, kr77_38, kr77_39, kr77_40, kr77_41, kr77_42, kr77_44, kr77_45, kr77_46, kr77_48, kr77_49, kr77_51, kr77_52, kr77_55, kr77_57, kr77_58, kr77_59, kr77_61, kr77_62, kr77_63, kr77_64, kr77_65, kl78, kl79, kl80, kl81, kl82, kl83, kl84, kl85, kl86, kl87, kl88, kl89, kl90, kl91, kl92, kl93, kl94, kl95, kl96, kl97, kl98, kl99, kl100, kl101, kl102, kl103, kl104, kl105, kl106, kl107, kl108, kl109, kl110, kl111, kl112, kl113, kl114, kl115, kl116, kl117, kl118, kl119, kl120, kl121, kM_knF hA.1 hm2 hS (show d < 6 by omega), kp_lnS_d]
        by_cases b : kp_kn (ka_T A) (kp_ln (ka_T A) c (nI (ka_S A).2.2.2) i ((ka_S A).1 d)).1 = nI c
        · rw [if_pos b, if_pos (decide_eq_true b)]
          exact ⟨τ', rfl, c'.tr (kM_xg cc)⟩
        · rw [if_neg b, if_neg (fun e => b (of_decide_eq_true e))]
          obtain ⟨τ2, b1, b2, b3⟩ := kp_lifted (d := d) hA.1 hm2 (by omega) hc hS (by rw [kp_lnS_d]; exact ok i)
          obtain ⟨σ', c1, c2⟩ := ih τ2 (cc.tr b2) b3
          exact ⟨σ', by rw [b1, Option.bind_some]; exact c1, c2⟩
/-! rubs -/
theorem kM_pol {T : kp_T} {lv : Nat} {σ : kf_St} {d : Nat} {S : kp_S} (hT : kp_Tok T) (h : kp_MT T lv σ) (hd : d < kt_nd T) (hS : kp_fS (σ.1 112) S) : ∃ σ', f_X12_polished 77 (nI d) σ = some σ' ∧ kp_chM (fun r => r = 112) (fun _ => False) σ σ' ∧ kp_fS (σ'.1 112) (fun x => if x = d then kp_rb T (S.1 d) d else S.1 x, S.2) := by
  have h6 := hT.1.1
  obtain ⟨g0, g1, g2, g3, g4, g5⟩ := kp_fD_f (hS.1 d (by omega))
  unfold f_X12_polished
  refine kp_run (n := 4) (fun i f => ∀ τ, kp_chM (fun r => r = 112) (fun _ => False) σ τ → (∀ j, j < 4 * d ∨ 4 * d + 4 ≤ j → τ.1 112 j = σ.1 112 j) → (∀ q, q < 4 → τ.1 112 (4 * d + q) = if q < i then kp_tw ((S.1 d).1 q) (kt_fi T d q) (kp_of ((S.1 d).1 q) (kt_fi T d q) / 2) else (S.1 d).1 q) → ∃ σ', f_X12_polished_2 f 77 (nI d) (nI i) τ = some σ' ∧ kp_chM (fun r => r = 112) (fun _ => False) σ σ' ∧ kp_fS (σ'.1 112) (fun x => if x = d then kp_rb T (S.1 d) d else S.1 x, S.2)) (by omega) (fun f τ c e1 e2 => ?_) (fun i hi f ih τ c e1 e2 => ?_) σ kp_chM.rf (fun _ _ => rfl) (fun q hq => by rw [if_neg (Nat.not_lt_zero q)]; exact g0 q hq)
  · show ∃ σ', f_X12_polished_2_s _ 77 (nI d) (nI 4) τ = some σ' ∧ _
    unfold f_X12_polished_2_s
    simp (disch := omega) only [↓reduceIte, kz_lt, Option.bind_some, kz_ix, kz_leT, kz_leF, kz_ltT, kz_ltF, kz_lt0, kz_0le, kz_0ltT, kz_le0F, kz_eq0F, kz_10, kz_00, kz_11, kz_01, nI_clamp, nI_1, nI_add, pk_mul, kn3, kn4, kn5, kn6, kn7, kn8, kn9, kn10, kn16, kn20, kn24, kn30, kn32, kn36, kn40, kn41, kn42, kn48, kn54, kn60, kn61, kn64, kn69, kn70, kn99, kn100, kc0, kc1, kc2, kc3, kc4, kc5, kc6, kc7, kc8, kc9, kc10, kx0, kx1, kx2, kx3, kx4, kx5, kx6, kx7, kx8, kr77_1, kr77_3, kr77_5, kr77_6, kr77_7, kr77_8, kr77_9, kr77_21, kr77_22, kr77_23, kr77_24, kr77_25, kr77_26, kr77_27, kr77_28, kr77_29, kr77_30, kr77_31, kr77_32, kr77_33, kr77_34, kr77_35, kr77_36, kr77_38, kr77_39, kr77_40, kr77_41, kr77_42, kr77_44, kr77_45, kr77_46, kr77_48, kr77_49, kr77_51, kr77_52, kr77_55, kr77_57, kr77_58, kr77_59, kr77_61, kr77_62, kr77_63, kr77_64, kr77_65, kl78, kl79, kl80, kl81, kl82, kl83, kl84, kl85, kl86, kl87, kl88, kl89, kl90, kl91, kl92, kl93, kl94, kl95, kl96, kl97, kl98, kl99, kl100, kl101, kl102, kl103, kl104, kl105, kl106, kl107, kl108, kl109, kl110, kl111, kl112, kl113, kl114, kl115, kl116, kl117, kl118, kl119, kl120, kl121]
    refine ⟨_, rfl, c.wi rfl (by decide), ?_⟩
    refine hS.set (by omega) (fun j hj hc => ?_) ?_
    · unfold kp_cell at hc
      rw [kp_wi_col (by omega), e1 j (by omega)]
    · unfold kp_rb
      refine kp_fD_mk (fun q hq => ?_) ?_ ?_ ?_ ?_ ?_
      · rw [kp_wi_col (by omega), e2 q hq, if_pos hq]
      · rw [kp_wi_col (by omega), e1 _ (by omega), g1]
      · rw [kp_wi_col (by omega), e1 _ (by omega), g2]
      · rw [kp_wi_same, e1 _ (by omega), g3]
      · rw [kp_wi_col (by omega), e1 _ (by omega), g4]
      · rw [kp_wi_col (by omega), e1 _ (by omega), g5]
  · have hm := h.chM c (fun r e => by omega) (fun e => e)
    show ∃ σ', f_X12_polished_2_s _ 77 (nI d) (nI i) τ = some σ' ∧ _
    unfold f_X12_polished_2_s
    have e3 := e2 i hi
    rw [if_neg (Nat.lt_irrefl i)] at e3
    have k2 : ((2 : Int32) = 0) = False := kz_20
    simp only [k2, if_false]
    simp (disch := omega) only [↓reduceIte, kz_lt, Option.bind_some, kz_ix, kz_leT, kz_leF, kz_ltT, kz_ltF, kz_lt0, kz_0le, kz_0ltT, kz_le0F, kz_eq0F, kz_10, kz_00, kz_11, kz_01, nI_clamp, nI_1, nI_add, pk_mul, kn3, kn4, kn5, kn6, kn7, kn8, kn9, kn10, kn16, kn20, kn24, kn30, kn32, kn36, kn40, kn41, kn42, kn48, kn54, kn60, kn61, kn64, kn69, kn70, kn99, kn100, kc0, kc1, kc2, kc3, kc4, kc5, kc6, kc7, kc8, kc9, kc10, kx0, kx1, kx2, kx3, kx4, kx5, kx6, kx7, kx8, kr77_1, kr77_3, kr77_5, kr77_6, kr77_7, kr77_8, kr77_9, kr77_21, kr77_22, kr77_23, kr77_24, kr77_25, kr77_26, kr77_27, kr77_28, kr77_29, kr77_30, kr77_31, kr77_32, kr77_33, kr77_34, kr77_35, kr77_36, kr77_38, kr77_39, kr77_40, kr77_41, kr77_42, kr77_44, kr77_45, kr77_46, kr77_48, kr77_49, kr77_51, kr77_52, kr77_55, kr77_57, kr77_58, kr77_59, kr77_61, kr77_62, kr77_63, kr77_64, kr77_65, kl78, kl79, kl80, kl81, kl82, kl83, kl84, kl85, kl86, kl87, kl88, kl89, kl90, kl91, kl92, kl93, kl94, kl95, kl96, kl97, kl98, kl99, kl100, kl101, kl102, kl103, kl104, kl105, kl106, kl107, kl108, kl109, kl110, kl111, kl112, kl113, kl114, kl115, kl116, kl117, kl118, kl119, kl120, kl121, kp_firstPart hT hm hd hi, e3, kp_off, kp_towM]
    refine ih _ (c.wi rfl (by decide)) (fun j hj => ?_) (fun q hq => ?_)
    · rw [kp_wi_col (by omega)]; exact e1 j hj
    · by_cases e : q = i
      · rw [e, kp_wi_same, if_pos (by omega)]
      · rw [kp_wi_col (by omega), e2 q hq]
        by_cases e4 : q < i
        · rw [if_pos e4, if_pos (by omega)]
        · rw [if_neg e4, if_neg (by omega)]
