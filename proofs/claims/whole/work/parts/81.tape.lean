/-! ===== pure: tell, forget, feed, back ===== -/
theorem kC_oth {A A' : kp_A} {σ σ' : kf_St} (hn : kt_nd (ka_T A) ≤ 6) (h : kp_Cr A σ) (c : kp_ch (fun r => r = 1 ∨ r = 2 ∨ r = 72 ∨ r = 73 ∨ r = 74 ∨ r = 75) σ σ') (eA : A'.1 = A.1 ∧ A'.2.1 = A.2.1 ∧ A'.2.2.1 = A.2.2.1 ∧ A'.2.2.2.1 = A.2.2.2.1 ∧ A'.2.2.2.2.2.2 = A.2.2.2.2.2.2) (ht : σ'.1 72 0 = nI (ka_w A') ∧ ∀ i, i < ka_w A' → σ'.1 73 i = nI (ka_wd A' i) ∧ σ'.1 74 i = nI (ka_wp A' i) ∧ σ'.1 75 i = ka_ww A' i) (hb : σ'.1 1 0 = nI (ka_l A') ∧ ∀ i, i < ka_l A' → σ'.1 2 i = ka_b A' i) : kp_frC σ σ' ∧ kp_Cr A' σ' := by
  obtain ⟨h1, h2, h3, h4, h5, h6, h7, h8⟩ := h
  obtain ⟨e1, e2, e3, e4, e5⟩ := eA
  have e : ∀ r, ¬ (r = 1 ∨ r = 2 ∨ r = 72 ∨ r = 73 ∨ r = 74 ∨ r = 75) → σ'.1 r = σ.1 r := c.1
  refine ⟨c.frC (fun r q => by omega), ?_, ?_, ?_, ?_, ht, hb, ?_, ?_⟩
  · show kp_CT A'.1 σ'
    rw [e1]; exact h1.ch (fun r a b d f => e r (by omega))
  · show kp_cS σ' (kt_nd A'.1) A'.2.1
    rw [e1, e2]; exact h2.ch hn (fun r a => e r (by omega))
  · show kp_HC σ' (kt_nd A'.1) A'.2.2.1.1 A'.2.2.1.2
    rw [e1, e3]; exact h3.ch (e 60 (by omega)) (e 61 (by omega))
  · show kp_QC σ' (kt_nd A'.1) A'.2.2.2.1
    rw [e1, e4]; exact h4.ch (by rw [e 60 (by omega)]) (e 62 (by omega))
  · show σ'.1 43 1 = A'.2.2.2.2.2.2
    rw [e 43 (by omega), e5]; exact h7
  · rw [c.2]; exact h8
theorem kM_oth {A A' : kp_A} {σ σ' : kf_St} (h : kp_Mr A σ) (c : kp_chM (fun r => r = 78 ∨ r = 117 ∨ r = 118 ∨ r = 119) (fun j => j = 2 ∨ j = 60) σ σ') (eA : A'.1 = A.1 ∧ A'.2.1 = A.2.1 ∧ A'.2.2.1 = A.2.2.1 ∧ A'.2.2.2.1 = A.2.2.2.1 ∧ A'.2.2.2.2.2.2 = A.2.2.2.2.2.2) (ht : σ'.1 77 60 = nI (ka_w A') ∧ ∀ i, i < ka_w A' → σ'.1 117 i = nI (ka_wd A' i) ∧ σ'.1 118 i = nI (ka_wp A' i) ∧ σ'.1 119 i = ka_ww A' i) (hb : σ'.1 77 2 = nI (ka_l A') ∧ ∀ i, i < ka_l A' → σ'.1 78 i = ka_b A' i) : kp_frM σ σ' ∧ kp_Mr A' σ' := by
  obtain ⟨⟨lv, h1⟩, h2, h3, h4, h5, h6, h7, h8⟩ := h
  obtain ⟨e1, e2, e3, e4, e5⟩ := eA
  have e : ∀ r, ¬ (r = 78 ∨ r = 117 ∨ r = 118 ∨ r = 119) → r ≠ 77 → σ'.1 r = σ.1 r := c.1
  have j : ∀ r, ¬ (r = 2 ∨ r = 60) → σ'.1 77 r = σ.1 77 r := c.2.1
  refine ⟨c.frM (fun r q => by omega), ⟨lv, ?_⟩, ?_, ?_, ?_, ht, hb, ?_, ?_⟩
  · show kp_MT A'.1 lv σ'
    rw [e1]; exact h1.ch (fun r a b => e r (by omega) (by omega)) (j 18 (by omega))
  · show kp_fS (σ'.1 111) A'.2.1
    rw [e2, e 111 (by omega) (by omega)]; exact h2
  · show kp_HM σ' A'.2.2.1.1 A'.2.2.1.2
    rw [e3]; exact h3.ch (j 56 (by omega)) (e 114 (by omega) (by omega))
  · show kp_QM σ' A'.2.2.2.1
    rw [e4]; exact h4.ch (e 120 (by omega) (by omega)) (e 121 (by omega) (by omega))
  · show σ'.1 77 17 = A'.2.2.2.2.2.2
    rw [j 17 (by omega), e5]; exact h7
  · rw [c.2.2]; exact h8
theorem ko_forget {A : kp_A} {k : Nat} (hA : kp_Aok A k) : kp_op A k (f_X11_forget 0) (f_X12_forget 77) := by
  refine ⟨nI (ka_w A), (ka_T A, ka_S A, A.2.2.1, ka_Q A, (0, A.2.2.2.2.1.2), A.2.2.2.2.2), ⟨hA.1, hA.mo.2.1, hA.mo.2.2.1, hA.mo.2.2.2.1, ⟨Nat.zero_le _, fun i hi => absurd hi (Nat.not_lt_zero i)⟩, hA.2.2.2.2.2⟩, fun σ h => ⟨kf_wi σ 72 0 0, ?_, ?_⟩, fun σ h => ⟨kf_wi σ 77 60 0, ?_, ?_⟩⟩
  · unfold f_X11_forget
    simp (disch := omega) only [↓reduceIte, kz_lt, Option.bind_some, kz_ix, kz_leT, kz_leF, kz_ltT, kz_ltF, kz_lt0, kz_0le, kz_0ltT, kz_le0F, kz_eq0F, kz_10, kz_00, kz_11, kz_01, nI_clamp, nI_1, nI_add, pk_mul, kc0, kc1, kc2, kc3, kc4, kc5, kc6, kc7, kc8, kc9, kc10, kx0, kx1, kx2, kx3, kx4, kx5, kx6, kx7, kx8, kr0_0, kr0_1, kr0_2, kr0_3, kr0_4, kr0_5, kr0_6, kr0_7, kr0_8, kr0_9, kr1_1, kr1_2, kr1_3, kr1_4, kr1_5, kr7_6, kr7_7, kr7_8, kr7_9, kr7_10, kr7_11, kr7_12, kr7_13, kr7_14, kr7_15, kr7_16, kr16_1, kr16_2, kr19_1, kr19_2, kr22_1, kr22_2, kr25_6, kr25_7, kr25_8, kr25_9, kr25_10, kr25_11, kr25_12, kr25_13, kr25_14, kr25_15, kr25_16, kr34_1, kr34_2, kr37_1, kr37_2, kr40_1, kr40_2, kr43_2, kr43_3, kr44_0, kr44_1, kr44_4, kr46_0, kr48_0, kr50_0, kr52_0, kr54_0, kr56_0, kr60_3, kr60_4, kr63_0, kr63_1, kr63_2, kr66_0, kr66_1, kr66_2, kr66_3, kr66_4, kr67_0, kr70_0, kr70_1, kr70_2, kr72_1, kr72_2, kr72_3, kr72_4, kr72_5, kr72_6, kr72_7, kl2, kl3, kl4, kl5, kl6, kl8, kl9, kl10, kl11, kl12, kl13, kl14, kl15, kl17, kl18, kl20, kl21, kl23, kl24, kl26, kl27, kl28, kl29, kl30, kl31, kl32, kl33, kl35, kl36, kl38, kl39, kl41, kl42, kl45, kl47, kl49, kl51, kl53, kl55, kl57, kl58, kl59, kl61, kl62, kl64, kl65, kl68, kl69, kl71, kl73, kl74, kl75, kl76, h.2.2.2.2.1.1]
  · exact kC_oth hA.1.1.1 h (kp_ch.wi (S := fun r => r = 1 ∨ r = 2 ∨ r = 72 ∨ r = 73 ∨ r = 74 ∨ r = 75) kp_ch.rf (by decide)) ⟨rfl, rfl, rfl, rfl, rfl⟩ ⟨kp_wi_same _ _ _ _, fun i hi => absurd hi (Nat.not_lt_zero i)⟩ ⟨by rw [kp_wi_row (by decide)]; exact h.2.2.2.2.2.1.1, fun i hi => by rw [kp_wi_row (by decide)]; exact h.2.2.2.2.2.1.2 i hi⟩
  · unfold f_X12_forget
    simp (disch := omega) only [↓reduceIte, kz_lt, Option.bind_some, kz_ix, kz_leT, kz_leF, kz_ltT, kz_ltF, kz_lt0, kz_0le, kz_0ltT, kz_le0F, kz_eq0F, kz_10, kz_00, kz_11, kz_01, nI_clamp, nI_1, nI_add, pk_mul, kc0, kc1, kc2, kc3, kc4, kc5, kc6, kc7, kc8, kc9, kc10, kx0, kx1, kx2, kx3, kx4, kx5, kx6, kx7, kx8, kr77_1, kr77_3, kr77_5, kr77_6, kr77_7, kr77_8, kr77_9, kr77_21, kr77_22, kr77_23, kr77_24, kr77_25, kr77_26, kr77_27, kr77_28, kr77_29, kr77_30, kr77_31, kr77_32, kr77_33, kr77_34, kr77_35, kr77_36, kr77_38, kr77_39, kr77_40, kr77_41, kr77_42, kr77_44, kr77_45, kr77_46, kr77_48, kr77_49, kr77_51, kr77_52, kr77_55, kr77_57, kr77_58, kr77_59, kr77_61, kr77_62, kr77_63, kr77_64, kr77_65, kl78, kl79, kl80, kl81, kl82, kl83, kl84, kl85, kl86, kl87, kl88, kl89, kl90, kl91, kl92, kl93, kl94, kl95, kl96, kl97, kl98, kl99, kl100, kl101, kl102, kl103, kl104, kl105, kl106, kl107, kl108, kl109, kl110, kl111, kl112, kl113, kl114, kl115, kl116, kl117, kl118, kl119, kl120, kl121, h.2.2.2.2.1.1]
  · exact kM_oth h (kp_chM.ws (J := fun j => j = 2 ∨ j = 60) kp_chM.rf (by decide)) ⟨rfl, rfl, rfl, rfl, rfl⟩ ⟨kp_wi_same _ _ _ _, fun i hi => absurd hi (Nat.not_lt_zero i)⟩ ⟨by rw [kp_wi_col (by decide)]; exact h.2.2.2.2.2.1.1, fun i hi => by rw [kp_wi_row (by decide)]; exact h.2.2.2.2.2.1.2 i hi⟩
theorem kp_way3 (x : Int32) : (x < -1) ∨ (¬ x < -1 ∧ x ≤ 1) ∨ (¬ x < -1 ∧ ¬ x ≤ 1) := by
  by_cases h1 : x < -1
  · exact Or.inl h1
  · by_cases h2 : x ≤ 1
    · exact Or.inr (Or.inl ⟨h1, h2⟩)
    · exact Or.inr (Or.inr ⟨h1, h2⟩)
theorem ko_tell {A : kp_A} {k : Nat} (hA : kp_Aok A k) (x y z : Int32) : kp_op A k (f_X11_tell 0 x y z) (f_X12_tell 77 x y z) := by
  have h6 := hA.1.1.1
  have h20 := hA.2.2.2.2.1.1
  by_cases hg : kp_is x (kt_nd (ka_T A)) = true ∧ kp_is y 4 = true ∧ (¬ z < -1 ∧ z ≤ 1) ∧ ka_w A < 20
  · obtain ⟨hx, hy, ⟨hz1, hz2⟩, hw⟩ := hg
    obtain ⟨d, hd, rfl⟩ := kp_is_t (by omega) hx
    obtain ⟨p, hp, rfl⟩ := kp_is_t (by decide) hy
    refine ⟨nI (ka_w A), (ka_T A, ka_S A, A.2.2.1, ka_Q A, (ka_w A + 1, fun i => if i = ka_w A then d else ka_wd A i, fun i => if i = ka_w A then p else ka_wp A i, fun i => if i = ka_w A then z else ka_ww A i), A.2.2.2.2.2), ⟨hA.1, hA.mo.2.1, hA.mo.2.2.1, hA.mo.2.2.2.1, ⟨hw, fun i hi => ?_⟩, hA.2.2.2.2.2⟩, fun σ h => ⟨kf_wi (kf_wi (kf_wi (kf_wi σ 73 (ka_w A) (nI d)) 74 (ka_w A) (nI p)) 75 (ka_w A) z) 72 0 (nI (ka_w A + 1)), ?_, ?_⟩, fun σ h => ⟨kf_wi (kf_wi (kf_wi (kf_wi σ 117 (ka_w A) (nI d)) 118 (ka_w A) (nI p)) 119 (ka_w A) z) 77 60 (nI (ka_w A + 1)), ?_, ?_⟩⟩
    · show (if i = ka_w A then d else ka_wd A i) < kt_nd (ka_T A) ∧ (if i = ka_w A then p else ka_wp A i) < 4
      by_cases b : i = ka_w A
      · rw [if_pos b, if_pos b]; exact ⟨hd, hp⟩
      · rw [if_neg b, if_neg b]; exact hA.2.2.2.2.1.2 i (by have : i < ka_w A + 1 := hi; omega)
    · have ew := h.2.2.2.2.1.1
      have k1 : nI (ka_w A + 1) - 1 = nI (ka_w A) := nI_pred _
      unfold f_X11_tell f_X9_note
      simp (disch := omega) only [↓reduceIte, kz_lt, Option.bind_some, kz_ix, kz_leT, kz_leF, kz_ltT, kz_ltF, kz_lt0, kz_0le, kz_0ltT, kz_le0F, kz_eq0F, kz_10, kz_00, kz_11, kz_01, nI_clamp, nI_1, nI_add, pk_mul, kn2, kn3, kn4, kn5, kn6, kn7, kn8, kn9, kn10, kn16, kn20, kn24, kn30, kn32, kn36, kn40, kn41, kn42, kn48, kn54, kn60, kn61, kn64, kn69, kn70, kn99, kn100, kc0, kc1, kc2, kc3, kc4, kc5, kc6, kc7, kc8, kc9, kc10, kx0, kx1, kx2, kx3, kx4, kx5, kx6, kx7, kx8, kr0_0, kr0_1, kr0_2, kr0_3, kr0_4, kr0_5, kr0_6, kr0_7, kr0_8, kr0_9, kr1_1, kr1_2, kr1_3, kr1_4, kr1_5, kr7_6, kr7_7, kr7_8, kr7_9, kr7_10, kr7_11, kr7_12, kr7_13, kr7_14, kr7_15, kr7_16, kr16_1, kr16_2, kr19_1, kr19_2, kr22_1, kr22_2, kr25_6, kr25_7, kr25_8, kr25_9, kr25_10, kr25_11, kr25_12, kr25_13, kr25_14, kr25_15, kr25_16, kr34_1, kr34_2, kr37_1, kr37_2, kr40_1, kr40_2, kr43_2, kr43_3, kr44_0, kr44_1, kr44_4, kr46_0, kr48_0, kr50_0, kr52_0, kr54_0, kr56_0, kr60_3, kr60_4, kr63_0, kr63_1, kr63_2, kr66_0, kr66_1, kr66_2, kr66_3, kr66_4, kr67_0, kr70_0, kr70_1, kr70_2, kr72_1, kr72_2, kr72_3, kr72_4, kr72_5, kr72_6, kr72_7, kl2, kl3, kl4, kl5, kl6, kl8, kl9, kl10, kl11, kl12, kl13, kl14, kl15, kl17, kl18, kl20, kl21, kl23, kl24, kl26, kl27, kl28, kl29, kl30, kl31, kl32, kl33, kl35, kl36, kl38, kl39, kl41, kl42, kl45, kl47, kl49, kl51, kl53, kl55, kl57, kl58, kl59, kl61, kl62, kl64, kl65, kl68, kl69, kl71, kl73, kl74, kl75, kl76, kC_door hA h hd, kC_pt hp, hz1, hz2, ew, kz_row, kz_same', k1]
    · refine kC_oth h6 h (kp_ch.wi (S := fun r => r = 1 ∨ r = 2 ∨ r = 72 ∨ r = 73 ∨ r = 74 ∨ r = 75) (kp_ch.wi (S := fun r => r = 1 ∨ r = 2 ∨ r = 72 ∨ r = 73 ∨ r = 74 ∨ r = 75) (kp_ch.wi (S := fun r => r = 1 ∨ r = 2 ∨ r = 72 ∨ r = 73 ∨ r = 74 ∨ r = 75) (kp_ch.wi (S := fun r => r = 1 ∨ r = 2 ∨ r = 72 ∨ r = 73 ∨ r = 74 ∨ r = 75) kp_ch.rf (by decide)) (by decide)) (by decide)) (by decide)) ⟨rfl, rfl, rfl, rfl, rfl⟩ ⟨kp_wi_same _ _ _ _, fun i hi => ?_⟩ ⟨?_, fun i hi => ?_⟩
      · show _ = nI (if i = ka_w A then d else ka_wd A i) ∧ _ = nI (if i = ka_w A then p else ka_wp A i) ∧ _ = (if i = ka_w A then z else ka_ww A i)
        by_cases b : i = ka_w A
        · rw [if_pos b, if_pos b, if_pos b, b]
          exact ⟨by rw [kp_wi_row (by decide), kp_wi_row (by decide), kp_wi_row (by decide), kp_wi_same], by rw [kp_wi_row (by decide), kp_wi_row (by decide), kp_wi_same], by rw [kp_wi_row (by decide), kp_wi_same]⟩
        · rw [if_neg b, if_neg b, if_neg b]
          have q := h.2.2.2.2.1.2 i (by have : i < ka_w A + 1 := hi; omega)
          exact ⟨by rw [kp_wi_row (by decide), kp_wi_row (by decide), kp_wi_row (by decide), kp_wi_col b]; exact q.1, by rw [kp_wi_row (by decide), kp_wi_row (by decide), kp_wi_col b, kp_wi_row (by decide)]; exact q.2.1, by rw [kp_wi_row (by decide), kp_wi_col b, kp_wi_row (by decide), kp_wi_row (by decide)]; exact q.2.2⟩
      · rw [kp_wi_row (by decide), kp_wi_row (by decide), kp_wi_row (by decide), kp_wi_row (by decide)]; exact h.2.2.2.2.2.1.1
      · rw [kp_wi_row (by decide), kp_wi_row (by decide), kp_wi_row (by decide), kp_wi_row (by decide)]; exact h.2.2.2.2.2.1.2 i hi
    · obtain ⟨lv, hm⟩ := h.1
      have ew := h.2.2.2.2.1.1
      have k1 : nI (ka_w A + 1) - 1 = nI (ka_w A) := nI_pred _
      have k2 : (nI (ka_w A) = nI 20) = False := kz_eqF (by omega) (by omega) (by decide)
      have k3 : f_X12_in z (-1) 1 σ = some (1, σ) := by
        unfold f_X12_in
        rw [if_neg hz1, if_neg (fun e => by have a := kp_ltI.mp e; have b := kp_leI.mp hz2; omega)]
      unfold f_X12_tell
      simp (disch := omega) only [↓reduceIte, kz_lt, Option.bind_some, kz_ix, kz_leT, kz_leF, kz_ltT, kz_ltF, kz_lt0, kz_0le, kz_0ltT, kz_le0F, kz_eq0F, kz_10, kz_00, kz_11, kz_01, nI_clamp, nI_1, nI_add, pk_mul, kn2, kn3, kn4, kn5, kn6, kn7, kn8, kn9, kn10, kn16, kn20, kn24, kn30, kn32, kn36, kn40, kn41, kn42, kn48, kn54, kn60, kn61, kn64, kn69, kn70, kn99, kn100, kc0, kc1, kc2, kc3, kc4, kc5, kc6, kc7, kc8, kc9, kc10, kx0, kx1, kx2, kx3, kx4, kx5, kx6, kx7, kx8, kr77_1, kr77_3, kr77_5, kr77_6, kr77_7, kr77_8, kr77_9, kr77_21, kr77_22, kr77_23, kr77_24, kr77_25, kr77_26, kr77_27, kr77_28, kr77_29, kr77_30, kr77_31, kr77_32, kr77_33, kr77_34, kr77_35, kr77_36, kr77_38, kr77_39, kr77_40, kr77_41, kr77_42, kr77_44, kr77_45, kr77_46, kr77_48, kr77_49, kr77_51, kr77_52, kr77_55, kr77_57, kr77_58, kr77_59, kr77_61, kr77_62, kr77_63, kr77_64, kr77_65, kl78, kl79, kl80, kl81, kl82, kl83, kl84, kl85, kl86, kl87, kl88, kl89, kl90, kl91, kl92, kl93, kl94, kl95, kl96, kl97, kl98, kl99, kl100, kl101, kl102, kl103, kl104, kl105, kl106, kl107, kl108, kl109, kl110, kl111, kl112, kl113, kl114, kl115, kl116, kl117, kl118, kl119, kl120, kl121, kM_door hA.1 hm hd, kM_pt hp, ew, k2, k3, kz_row, kz_same', k1]
    · refine kM_oth h (kp_chM.ws (kp_chM.wi (S := fun r => r = 78 ∨ r = 117 ∨ r = 118 ∨ r = 119) (kp_chM.wi (S := fun r => r = 78 ∨ r = 117 ∨ r = 118 ∨ r = 119) (kp_chM.wi (S := fun r => r = 78 ∨ r = 117 ∨ r = 118 ∨ r = 119) kp_chM.rf (by decide) (by decide)) (by decide) (by decide)) (by decide) (by decide)) (by decide)) ⟨rfl, rfl, rfl, rfl, rfl⟩ ⟨kp_wi_same _ _ _ _, fun i hi => ?_⟩ ⟨?_, fun i hi => ?_⟩
      · show _ = nI (if i = ka_w A then d else ka_wd A i) ∧ _ = nI (if i = ka_w A then p else ka_wp A i) ∧ _ = (if i = ka_w A then z else ka_ww A i)
        by_cases b : i = ka_w A
        · rw [if_pos b, if_pos b, if_pos b, b]
          exact ⟨by rw [kp_wi_row (by decide), kp_wi_row (by decide), kp_wi_row (by decide), kp_wi_same], by rw [kp_wi_row (by decide), kp_wi_row (by decide), kp_wi_same], by rw [kp_wi_row (by decide), kp_wi_same]⟩
        · rw [if_neg b, if_neg b, if_neg b]
          have q := h.2.2.2.2.1.2 i (by have : i < ka_w A + 1 := hi; omega)
          exact ⟨by rw [kp_wi_row (by decide), kp_wi_row (by decide), kp_wi_row (by decide), kp_wi_col b]; exact q.1, by rw [kp_wi_row (by decide), kp_wi_row (by decide), kp_wi_col b, kp_wi_row (by decide)]; exact q.2.1, by rw [kp_wi_row (by decide), kp_wi_col b, kp_wi_row (by decide), kp_wi_row (by decide)]; exact q.2.2⟩
      · rw [kp_wi_col (by decide), kp_wi_row (by decide), kp_wi_row (by decide), kp_wi_row (by decide)]; exact h.2.2.2.2.2.1.1
      · rw [kp_wi_row (by decide), kp_wi_row (by decide), kp_wi_row (by decide), kp_wi_row (by decide)]; exact h.2.2.2.2.2.1.2 i hi
  · refine kp_qq.op hA (kp_qq.st (-1) (fun σ h => ?_) (fun σ h => ?_))
    · unfold f_X11_tell
      rw [kr0_1]
      by_cases hx : kp_is x (kt_nd (ka_T A)) = true
      · rw [kp_hasDoor hA.1 h.1, if_pos hx, Option.bind_some, if_neg (by decide : ¬ (1 : Int32) = 0)]
        by_cases hy : kp_is y 4 = true
        · dsimp only
          rw [kp_isPartC, if_pos hy, Option.bind_some, if_neg (by decide : ¬ (1 : Int32) = 0)]
          by_cases h1 : z < -1
          · rw [if_pos h1]
          rw [if_neg h1]
          by_cases h2 : z ≤ 1
          · rw [if_pos h2]
            have hw : ka_w A = 20 := by
              by_cases b : ka_w A < 20
              · exact absurd ⟨hx, hy, ⟨h1, h2⟩, b⟩ hg
              · omega
            unfold f_X9_note
            simp (disch := omega) only [↓reduceIte, kz_lt, Option.bind_some, kz_ix, kz_leT, kz_leF, kz_ltT, kz_ltF, kz_lt0, kz_0le, kz_0ltT, kz_le0F, kz_eq0F, kz_10, kz_00, kz_11, kz_01, nI_clamp, nI_1, nI_add, pk_mul, kn2, kn3, kn4, kn5, kn6, kn7, kn8, kn9, kn10, kn16, kn20, kn24, kn30, kn32, kn36, kn40, kn41, kn42, kn48, kn54, kn60, kn61, kn64, kn69, kn70, kn99, kn100, kc0, kc1, kc2, kc3, kc4, kc5, kc6, kc7, kc8, kc9, kc10, kx0, kx1, kx2, kx3, kx4, kx5, kx6, kx7, kx8, kr0_0, kr0_1, kr0_2, kr0_3, kr0_4, kr0_5, kr0_6, kr0_7, kr0_8, kr0_9, kr1_1, kr1_2, kr1_3, kr1_4, kr1_5, kr7_6, kr7_7, kr7_8, kr7_9, kr7_10, kr7_11, kr7_12, kr7_13, kr7_14, kr7_15, kr7_16, kr16_1, kr16_2, kr19_1, kr19_2, kr22_1, kr22_2, kr25_6, kr25_7, kr25_8, kr25_9, kr25_10, kr25_11, kr25_12, kr25_13, kr25_14, kr25_15, kr25_16, kr34_1, kr34_2, kr37_1, kr37_2, kr40_1, kr40_2, kr43_2, kr43_3, kr44_0, kr44_1, kr44_4, kr46_0, kr48_0, kr50_0, kr52_0, kr54_0, kr56_0, kr60_3, kr60_4, kr63_0, kr63_1, kr63_2, kr66_0, kr66_1, kr66_2, kr66_3, kr66_4, kr67_0, kr70_0, kr70_1, kr70_2, kr72_1, kr72_2, kr72_3, kr72_4, kr72_5, kr72_6, kr72_7, kl2, kl3, kl4, kl5, kl6, kl8, kl9, kl10, kl11, kl12, kl13, kl14, kl15, kl17, kl18, kl20, kl21, kl23, kl24, kl26, kl27, kl28, kl29, kl30, kl31, kl32, kl33, kl35, kl36, kl38, kl39, kl41, kl42, kl45, kl47, kl49, kl51, kl53, kl55, kl57, kl58, kl59, kl61, kl62, kl64, kl65, kl68, kl69, kl71, kl73, kl74, kl75, kl76, h.2.2.2.2.1.1, hw]
          · rw [if_neg h2]
        · dsimp only
          rw [kp_isPartC, if_neg hy, Option.bind_some]
          exact if_pos rfl
      · rw [kC_doorF hA h hx, Option.bind_some]
        exact if_pos rfl
    · obtain ⟨lv, hm⟩ := h.1
      unfold f_X12_tell
      rw [h.2.2.2.2.1.1]
      by_cases hw : ka_w A = 20
      · rw [hw]; exact if_pos rfl
      rw [if_neg (show ¬ nI (ka_w A) = 20 from fun e => hw ((nI_eq (b := 20) (by omega) (by decide)).mp e))]
      by_cases hx : kp_is x (kt_nd (ka_T A)) = true
      · rw [kp_isDoor hA.1 hm, if_pos hx, Option.bind_some, if_neg (by decide : ¬ (1 : Int32) = 0)]
        by_cases hy : kp_is y 4 = true
        · dsimp only
          rw [kp_isPartM, if_pos hy, Option.bind_some, if_neg (by decide : ¬ (1 : Int32) = 0)]
          have hz : ¬ (¬ z < -1 ∧ z ≤ 1) := fun e => hg ⟨hx, hy, e, by omega⟩
          unfold f_X12_in
          dsimp only
          by_cases h1 : z < -1
          · rw [if_pos h1]; rfl
          · rw [if_neg h1]
            have h2 : ¬ z ≤ 1 := fun e => hz ⟨h1, e⟩
            rw [if_pos (Int32.not_le.mp h2)]; rfl
        · dsimp only
          rw [kp_isPartM, if_neg hy, Option.bind_some]
          exact if_pos rfl
      · rw [kM_doorF hA.1 hm hx, Option.bind_some]
        exact if_pos rfl
/-! the tape -/
theorem ko_back {A : kp_A} {k : Nat} (hA : kp_Aok A k) (x : Int32) : kp_op A k (f_X11_back 0 x) (f_X12_back 77 x) := by
  have hl := hA.2.2.2.2.2
  by_cases hx : kp_is x (ka_l A + 1) = true
  · obtain ⟨n, hn, rfl⟩ := kp_is_t (by omega) hx
    have e : nI (ka_l A) - nI n = nI (ka_l A - n) := pk_sub (by omega)
    refine ⟨nI (ka_l A - n), (ka_T A, ka_S A, A.2.2.1, ka_Q A, A.2.2.2.2.1, (ka_l A - n, ka_b A), ka_p A), ⟨hA.1, hA.mo.2.1, hA.mo.2.2.1, hA.mo.2.2.2.1, hA.2.2.2.2.1, by show ka_l A - n ≤ 2000; omega⟩, fun σ h => ⟨kf_wi σ 1 0 (nI (ka_l A - n)), ?_, ?_⟩, fun σ h => ⟨kf_wi σ 77 2 (nI (ka_l A - n)), ?_, ?_⟩⟩
    · unfold f_X11_back
      simp (disch := omega) only [↓reduceIte, kz_lt, Option.bind_some, kz_ix, kz_leT, kz_leF, kz_ltT, kz_ltF, kz_lt0, kz_0le, kz_0ltT, kz_le0F, kz_eq0F, kz_10, kz_00, kz_11, kz_01, nI_clamp, nI_1, nI_add, pk_mul, kc0, kc1, kc2, kc3, kc4, kc5, kc6, kc7, kc8, kc9, kc10, kx0, kx1, kx2, kx3, kx4, kx5, kx6, kx7, kx8, kr0_0, kr0_1, kr0_2, kr0_3, kr0_4, kr0_5, kr0_6, kr0_7, kr0_8, kr0_9, kr1_1, kr1_2, kr1_3, kr1_4, kr1_5, kr7_6, kr7_7, kr7_8, kr7_9, kr7_10, kr7_11, kr7_12, kr7_13, kr7_14, kr7_15, kr7_16, kr16_1, kr16_2, kr19_1, kr19_2, kr22_1, kr22_2, kr25_6, kr25_7, kr25_8, kr25_9, kr25_10, kr25_11, kr25_12, kr25_13, kr25_14, kr25_15, kr25_16, kr34_1, kr34_2, kr37_1, kr37_2, kr40_1, kr40_2, kr43_2, kr43_3, kr44_0, kr44_1, kr44_4, kr46_0, kr48_0, kr50_0, kr52_0, kr54_0, kr56_0, kr60_3, kr60_4, kr63_0, kr63_1, kr63_2, kr66_0, kr66_1, kr66_2, kr66_3, kr66_4, kr67_0, kr70_0, kr70_1, kr70_2, kr72_1, kr72_2, kr72_3, kr72_4, kr72_5, kr72_6, kr72_7, kl2, kl3, kl4, kl5, kl6, kl8, kl9, kl10, kl11, kl12, kl13, kl14, kl15, kl17, kl18, kl20, kl21, kl23, kl24, kl26, kl27, kl28, kl29, kl30, kl31, kl32, kl33, kl35, kl36, kl38, kl39, kl41, kl42, kl45, kl47, kl49, kl51, kl53, kl55, kl57, kl58, kl59, kl61, kl62, kl64, kl65, kl68, kl69, kl71, kl73, kl74, kl75, kl76, h.2.2.2.2.2.1.1, e, kz_same']
    · refine kC_oth hA.1.1.1 h (kp_ch.wi (S := fun r => r = 1 ∨ r = 2 ∨ r = 72 ∨ r = 73 ∨ r = 74 ∨ r = 75) kp_ch.rf (by decide)) ⟨rfl, rfl, rfl, rfl, rfl⟩ ?_ ⟨kp_wi_same _ _ _ _, fun i hi => ?_⟩
      · rw [kz_rowf (by decide), kz_rowf (by decide), kz_rowf (by decide), kz_rowf (by decide)]; exact h.2.2.2.2.1
      · rw [kp_wi_row (by decide)]; exact h.2.2.2.2.2.1.2 i (by have : i < ka_l A - n := hi; omega)
    · unfold f_X12_back
      simp (disch := omega) only [↓reduceIte, kz_lt, Option.bind_some, kz_ix, kz_leT, kz_leF, kz_ltT, kz_ltF, kz_lt0, kz_0le, kz_0ltT, kz_le0F, kz_eq0F, kz_10, kz_00, kz_11, kz_01, nI_clamp, nI_1, nI_add, pk_mul, kc0, kc1, kc2, kc3, kc4, kc5, kc6, kc7, kc8, kc9, kc10, kx0, kx1, kx2, kx3, kx4, kx5, kx6, kx7, kx8, kr77_1, kr77_3, kr77_5, kr77_6, kr77_7, kr77_8, kr77_9, kr77_21, kr77_22, kr77_23, kr77_24, kr77_25, kr77_26, kr77_27, kr77_28, kr77_29, kr77_30, kr77_31, kr77_32, kr77_33, kr77_34, kr77_35, kr77_36, kr77_38, kr77_39, kr77_40, kr77_41, kr77_42, kr77_44, kr77_45, kr77_46, kr77_48, kr77_49, kr77_51, kr77_52, kr77_55, kr77_57, kr77_58, kr77_59, kr77_61, kr77_62, kr77_63, kr77_64, kr77_65, kl78, kl79, kl80, kl81, kl82, kl83, kl84, kl85, kl86, kl87, kl88, kl89, kl90, kl91, kl92, kl93, kl94, kl95, kl96, kl97, kl98, kl99, kl100, kl101, kl102, kl103, kl104, kl105, kl106, kl107, kl108, kl109, kl110, kl111, kl112, kl113, kl114, kl115, kl116, kl117, kl118, kl119, kl120, kl121, h.2.2.2.2.2.1.1, e, kz_same']
    · refine kM_oth h (kp_chM.ws (J := fun j => j = 2 ∨ j = 60) kp_chM.rf (by decide)) ⟨rfl, rfl, rfl, rfl, rfl⟩ ?_ ⟨kp_wi_same _ _ _ _, fun i hi => ?_⟩
      · rw [kp_wi_col (by decide), kz_rowf (by decide), kz_rowf (by decide), kz_rowf (by decide)]; exact h.2.2.2.2.1
      · rw [kp_wi_row (by decide)]; exact h.2.2.2.2.2.1.2 i (by have : i < ka_l A - n := hi; omega)
  · refine kp_qq.op hA (kp_qq.st (-1) (fun σ h => ?_) (fun σ h => ?_))
    · unfold f_X11_back
      rw [kr0_0, h.2.2.2.2.2.1.1]
      rcases kp_out (by omega) hx with h1 | ⟨h1, h2⟩
      · rw [if_pos h1]
      · rw [if_neg h1, if_neg (kp_nlt (by omega) h1 h2)]
    · unfold f_X12_back
      rw [h.2.2.2.2.2.1.1]
      rcases kp_out (by omega) hx with h1 | ⟨h1, h2⟩
      · rw [if_pos h1]
      · rw [if_neg h1, if_neg (kp_nlt (by omega) h1 h2)]
/-- the j-th byte of a word -/
def kp_b1 (v v2 : Int32) : Int32 := vp_nar .byte (Int32.toInt8 (v >>> (v2 &&& 31))).toInt32
theorem kp_b1C (v : Int32) {v2 : Int32} (h : v2 = 24 ∨ v2 = 16 ∨ v2 = 8 ∨ v2 = 0) : vp_nar .byte (Int32.toInt8 ((Int32.toUInt32 v) >>> ((Int32.toUInt32 v2) &&& Int32.toUInt32 31)).toInt32).toInt32 = kp_b1 v v2 := by
  unfold kp_b1
  refine congrArg (fun q : Int8 => vp_nar .byte q.toInt32) ?_
  apply Int8.toBitVec_inj.mp
  apply BitVec.eq_of_getLsbD_eq
  intro i hi
  rcases h with rfl | rfl | rfl | rfl
  · have e1 : (((Int32.toUInt32 v) >>> ((Int32.toUInt32 24) &&& Int32.toUInt32 31)).toInt32.toInt8).toBitVec = (v.toBitVec >>> (24#32)).signExtend 8 := rfl
    have e2 : ((v >>> (((24 : Int32)) &&& 31)).toInt8).toBitVec = (v.toBitVec.sshiftRight 24).signExtend 8 := rfl
    rw [e1, e2, BitVec.getLsbD_signExtend, BitVec.getLsbD_signExtend, BitVec.ushiftRight_eq', BitVec.getLsbD_ushiftRight, BitVec.getLsbD_sshiftRight]
    have a1 : i < 32 := by omega
    have a2 : 24 + i < 32 := by omega
    have a3 : ¬ 32 ≤ i := by omega
    simp [a1, a2, a3]
  · have e1 : (((Int32.toUInt32 v) >>> ((Int32.toUInt32 16) &&& Int32.toUInt32 31)).toInt32.toInt8).toBitVec = (v.toBitVec >>> (16#32)).signExtend 8 := rfl
    have e2 : ((v >>> (((16 : Int32)) &&& 31)).toInt8).toBitVec = (v.toBitVec.sshiftRight 16).signExtend 8 := rfl
    rw [e1, e2, BitVec.getLsbD_signExtend, BitVec.getLsbD_signExtend, BitVec.ushiftRight_eq', BitVec.getLsbD_ushiftRight, BitVec.getLsbD_sshiftRight]
    have a1 : i < 32 := by omega
    have a2 : 16 + i < 32 := by omega
    have a3 : ¬ 32 ≤ i := by omega
    simp [a1, a2, a3]
  · have e1 : (((Int32.toUInt32 v) >>> ((Int32.toUInt32 8) &&& Int32.toUInt32 31)).toInt32.toInt8).toBitVec = (v.toBitVec >>> (8#32)).signExtend 8 := rfl
    have e2 : ((v >>> (((8 : Int32)) &&& 31)).toInt8).toBitVec = (v.toBitVec.sshiftRight 8).signExtend 8 := rfl
    rw [e1, e2, BitVec.getLsbD_signExtend, BitVec.getLsbD_signExtend, BitVec.ushiftRight_eq', BitVec.getLsbD_ushiftRight, BitVec.getLsbD_sshiftRight]
    have a1 : i < 32 := by omega
    have a2 : 8 + i < 32 := by omega
    have a3 : ¬ 32 ≤ i := by omega
    simp [a1, a2, a3]
  · have e1 : (((Int32.toUInt32 v) >>> ((Int32.toUInt32 0) &&& Int32.toUInt32 31)).toInt32.toInt8).toBitVec = (v.toBitVec >>> (0#32)).signExtend 8 := rfl
    have e2 : ((v >>> (((0 : Int32)) &&& 31)).toInt8).toBitVec = (v.toBitVec.sshiftRight 0).signExtend 8 := rfl
    rw [e1, e2, BitVec.getLsbD_signExtend, BitVec.getLsbD_signExtend, BitVec.ushiftRight_eq', BitVec.getLsbD_ushiftRight, BitVec.getLsbD_sshiftRight]
    have a1 : i < 32 := by omega
    have a2 : 0 + i < 32 := by omega
    have a3 : ¬ 32 ≤ i := by omega
    simp [a1, a2, a3]
/-- four bytes more -/
def kp_ap (l : Nat × (Nat → Int32)) (v : Int32) : Nat × (Nat → Int32) := (l.1 + 4, fun i => if i = l.1 + 3 then kp_b1 v 0 else if i = l.1 + 2 then kp_b1 v 8 else if i = l.1 + 1 then kp_b1 v 16 else if i = l.1 then kp_b1 v 24 else l.2 i)
theorem kC_a1 {τ : kf_St} {l : Nat} (h : τ.1 1 0 = nI l) (hl : l < 2000) (v : Int32) {v2 : Int32} (h2 : v2 = 24 ∨ v2 = 16 ∨ v2 = 8 ∨ v2 = 0) (f : Nat) : f_X8_addFour_3 (f + 1) 1 v v2 τ = f_X8_addFour_3 f 1 v (v2 + -8) (kf_wi (kf_wi τ 2 l (kp_b1 v v2)) 1 0 (nI (l + 1))) := by
  show f_X8_addFour_3_s _ 1 v v2 τ = _
  unfold f_X8_addFour_3_s f_X8_addFour_49
  have n2 : ¬ v2 < 0 := by rcases h2 with rfl | rfl | rfl | rfl <;> decide
  rw [if_neg n2, kp_b1C v h2]
  simp (disch := omega) only [↓reduceIte, kz_lt, Option.bind_some, kz_ix, kz_leT, kz_leF, kz_ltT, kz_ltF, kz_lt0, kz_0le, kz_0ltT, kz_le0F, kz_eq0F, kz_10, kz_00, kz_11, kz_01, nI_clamp, nI_1, nI_add, pk_mul, kc0, kc1, kc2, kc3, kc4, kc5, kc6, kc7, kc8, kc9, kc10, kx0, kx1, kx2, kx3, kx4, kx5, kx6, kx7, kx8, kr0_0, kr0_1, kr0_2, kr0_3, kr0_4, kr0_5, kr0_6, kr0_7, kr0_8, kr0_9, kr1_1, kr1_2, kr1_3, kr1_4, kr1_5, kr7_6, kr7_7, kr7_8, kr7_9, kr7_10, kr7_11, kr7_12, kr7_13, kr7_14, kr7_15, kr7_16, kr16_1, kr16_2, kr19_1, kr19_2, kr22_1, kr22_2, kr25_6, kr25_7, kr25_8, kr25_9, kr25_10, kr25_11, kr25_12, kr25_13, kr25_14, kr25_15, kr25_16, kr34_1, kr34_2, kr37_1, kr37_2, kr40_1, kr40_2, kr43_2, kr43_3, kr44_0, kr44_1, kr44_4, kr46_0, kr48_0, kr50_0, kr52_0, kr54_0, kr56_0, kr60_3, kr60_4, kr63_0, kr63_1, kr63_2, kr66_0, kr66_1, kr66_2, kr66_3, kr66_4, kr67_0, kr70_0, kr70_1, kr70_2, kr72_1, kr72_2, kr72_3, kr72_4, kr72_5, kr72_6, kr72_7, kl2, kl3, kl4, kl5, kl6, kl8, kl9, kl10, kl11, kl12, kl13, kl14, kl15, kl17, kl18, kl20, kl21, kl23, kl24, kl26, kl27, kl28, kl29, kl30, kl31, kl32, kl33, kl35, kl36, kl38, kl39, kl41, kl42, kl45, kl47, kl49, kl51, kl53, kl55, kl57, kl58, kl59, kl61, kl62, kl64, kl65, kl68, kl69, kl71, kl73, kl74, kl75, kl76, h, kz_row]
theorem kC_a4 {τ : kf_St} {l : Nat} {b : Nat → Int32} (h : τ.1 1 0 = nI l) (hb : ∀ i, i < l → τ.1 2 i = b i) (hl : l + 4 ≤ 2000) (v : Int32) : ∃ τ', f_X8_addFour 1 v τ = some τ' ∧ kp_ch (fun r => r = 1 ∨ r = 2) τ τ' ∧ τ'.1 1 0 = nI (kp_ap (l, b) v).1 ∧ ∀ i, i < (kp_ap (l, b) v).1 → τ'.1 2 i = (kp_ap (l, b) v).2 i := by
  unfold f_X8_addFour
  have s1 := kC_a1 h (by omega) v (v2 := 24) (by decide) 999999
  have s2 := kC_a1 (τ := kf_wi (kf_wi τ 2 l (kp_b1 v 24)) 1 0 (nI (l + 1))) (l := l + 1) (kp_wi_same _ _ _ _) (by omega) v (v2 := 16) (by decide) 999998
  have s3 := kC_a1 (τ := kf_wi (kf_wi (kf_wi (kf_wi τ 2 l (kp_b1 v 24)) 1 0 (nI (l + 1))) 2 (l + 1) (kp_b1 v 16)) 1 0 (nI (l + 2))) (l := l + 2) (kp_wi_same _ _ _ _) (by omega) v (v2 := 8) (by decide) 999997
  have s4 := kC_a1 (τ := kf_wi (kf_wi (kf_wi (kf_wi (kf_wi (kf_wi τ 2 l (kp_b1 v 24)) 1 0 (nI (l + 1))) 2 (l + 1) (kp_b1 v 16)) 1 0 (nI (l + 2))) 2 (l + 2) (kp_b1 v 8)) 1 0 (nI (l + 3))) (l := l + 3) (kp_wi_same _ _ _ _) (by omega) v (v2 := 0) (by decide) 999996
  refine ⟨kf_wi (kf_wi (kf_wi (kf_wi (kf_wi (kf_wi (kf_wi (kf_wi τ 2 l (kp_b1 v 24)) 1 0 (nI (l + 1))) 2 (l + 1) (kp_b1 v 16)) 1 0 (nI (l + 2))) 2 (l + 2) (kp_b1 v 8)) 1 0 (nI (l + 3))) 2 (l + 3) (kp_b1 v 0)) 1 0 (nI (l + 4)), ?_, ?_, kp_wi_same _ _ _ _, fun i hi => ?_⟩
  · refine s1.trans (s2.trans (s3.trans (s4.trans ?_)))
    show f_X8_addFour_3_s _ 1 v _ _ = _
    unfold f_X8_addFour_3_s
    rw [if_pos (by decide)]
  · have c0 : kp_ch (fun r => r = 1 ∨ r = 2) τ τ := kp_ch.rf
    have w1 : ∀ {a b : kf_St} {j : Nat} {v : Int32}, kp_ch (fun r => r = 1 ∨ r = 2) a b → kp_ch (fun r => r = 1 ∨ r = 2) a (kf_wi b 1 j v) := fun h => kp_ch.wi (S := fun r => r = 1 ∨ r = 2) h (by decide)
    have w2 : ∀ {a b : kf_St} {j : Nat} {v : Int32}, kp_ch (fun r => r = 1 ∨ r = 2) a b → kp_ch (fun r => r = 1 ∨ r = 2) a (kf_wi b 2 j v) := fun h => kp_ch.wi (S := fun r => r = 1 ∨ r = 2) h (by decide)
    exact w1 (w2 (w1 (w2 (w1 (w2 (w1 (w2 c0)))))))
  · have hi' : i < l + 4 := hi
    show _ = if i = l + 3 then kp_b1 v 0 else if i = l + 2 then kp_b1 v 8 else if i = l + 1 then kp_b1 v 16 else if i = l then kp_b1 v 24 else b i
    rw [kp_wi_row (by decide)]
    by_cases b3 : i = l + 3
    · rw [if_pos b3, b3, kp_wi_same]
    rw [if_neg b3, kp_wi_col b3, kp_wi_row (by decide)]
    by_cases b2 : i = l + 2
    · rw [if_pos b2, b2, kp_wi_same]
    rw [if_neg b2, kp_wi_col b2, kp_wi_row (by decide)]
    by_cases b1 : i = l + 1
    · rw [if_pos b1, b1, kp_wi_same]
    rw [if_neg b1, kp_wi_col b1, kp_wi_row (by decide)]
    by_cases b0 : i = l
    · rw [if_pos b0, b0, kp_wi_same]
    rw [if_neg b0, kp_wi_col b0]
    exact hb i (by omega)
theorem kM_a1 {τ : kf_St} {l : Nat} (h : τ.1 77 2 = nI l) (hl : l < 2000) (v : Int32) {v2 : Int32} (h2 : v2 = 24 ∨ v2 = 16 ∨ v2 = 8 ∨ v2 = 0) (f : Nat) : f_X12_put_3 (f + 1) 77 v v2 τ = f_X12_put_3 f 77 v (v2 + -8) (kf_wi (kf_wi τ 78 l (kp_b1 v v2)) 77 2 (nI (l + 1))) := by
  show f_X12_put_3_s _ 77 v v2 τ = _
  unfold f_X12_put_3_s
  have n2 : ¬ v2 < 0 := by rcases h2 with rfl | rfl | rfl | rfl <;> decide
  rw [if_neg n2]
  simp (disch := omega) only [↓reduceIte, kz_lt, Option.bind_some, kz_ix, kz_leT, kz_leF, kz_ltT, kz_ltF, kz_lt0, kz_0le, kz_0ltT, kz_le0F, kz_eq0F, kz_10, kz_00, kz_11, kz_01, nI_clamp, nI_1, nI_add, pk_mul, kc0, kc1, kc2, kc3, kc4, kc5, kc6, kc7, kc8, kc9, kc10, kx0, kx1, kx2, kx3, kx4, kx5, kx6, kx7, kx8, kr77_1, kr77_3, kr77_5, kr77_6, kr77_7, kr77_8, kr77_9, kr77_21, kr77_22, kr77_23, kr77_24, kr77_25, kr77_26, kr77_27, kr77_28, kr77_29, kr77_30, kr77_31, kr77_32, kr77_33, kr77_34, kr77_35, kr77_36, kr77_38, kr77_39, kr77_40, kr77_41, kr77_42, kr77_44, kr77_45, kr77_46, kr77_48, kr77_49, kr77_51, kr77_52, kr77_55, kr77_57, kr77_58, kr77_59, kr77_61, kr77_62, kr77_63, kr77_64, kr77_65, kl78, kl79, kl80, kl81, kl82, kl83, kl84, kl85, kl86, kl87, kl88, kl89, kl90, kl91, kl92, kl93, kl94, kl95, kl96, kl97, kl98, kl99, kl100, kl101, kl102, kl103, kl104, kl105, kl106, kl107, kl108, kl109, kl110, kl111, kl112, kl113, kl114, kl115, kl116, kl117, kl118, kl119, kl120, kl121, h, kz_row]
  rfl
theorem kM_a4 {τ : kf_St} {l : Nat} {b : Nat → Int32} (h : τ.1 77 2 = nI l) (hb : ∀ i, i < l → τ.1 78 i = b i) (hl : l + 4 ≤ 2000) (v : Int32) : ∃ τ', f_X12_put 77 v τ = some τ' ∧ kp_chM (fun r => r = 78) (fun j => j = 2) τ τ' ∧ τ'.1 77 2 = nI (kp_ap (l, b) v).1 ∧ ∀ i, i < (kp_ap (l, b) v).1 → τ'.1 78 i = (kp_ap (l, b) v).2 i := by
  unfold f_X12_put
  have s1 := kM_a1 h (by omega) v (v2 := 24) (by decide) 999999
  have s2 := kM_a1 (τ := kf_wi (kf_wi τ 78 l (kp_b1 v 24)) 77 2 (nI (l + 1))) (l := l + 1) (kp_wi_same _ _ _ _) (by omega) v (v2 := 16) (by decide) 999998
  have s3 := kM_a1 (τ := kf_wi (kf_wi (kf_wi (kf_wi τ 78 l (kp_b1 v 24)) 77 2 (nI (l + 1))) 78 (l + 1) (kp_b1 v 16)) 77 2 (nI (l + 2))) (l := l + 2) (kp_wi_same _ _ _ _) (by omega) v (v2 := 8) (by decide) 999997
  have s4 := kM_a1 (τ := kf_wi (kf_wi (kf_wi (kf_wi (kf_wi (kf_wi τ 78 l (kp_b1 v 24)) 77 2 (nI (l + 1))) 78 (l + 1) (kp_b1 v 16)) 77 2 (nI (l + 2))) 78 (l + 2) (kp_b1 v 8)) 77 2 (nI (l + 3))) (l := l + 3) (kp_wi_same _ _ _ _) (by omega) v (v2 := 0) (by decide) 999996
  refine ⟨kf_wi (kf_wi (kf_wi (kf_wi (kf_wi (kf_wi (kf_wi (kf_wi τ 78 l (kp_b1 v 24)) 77 2 (nI (l + 1))) 78 (l + 1) (kp_b1 v 16)) 77 2 (nI (l + 2))) 78 (l + 2) (kp_b1 v 8)) 77 2 (nI (l + 3))) 78 (l + 3) (kp_b1 v 0)) 77 2 (nI (l + 4)), ?_, ?_, kp_wi_same _ _ _ _, fun i hi => ?_⟩
  · refine s1.trans (s2.trans (s3.trans (s4.trans ?_)))
    show f_X12_put_3_s _ 77 v _ _ = _
    unfold f_X12_put_3_s
    rw [if_pos (by decide)]
  · have c0 : kp_chM (fun r => r = 78) (fun j => j = 2) τ τ := kp_chM.rf
    have w1 : ∀ {a b : kf_St} {v : Int32}, kp_chM (fun r => r = 78) (fun j => j = 2) a b → kp_chM (fun r => r = 78) (fun j => j = 2) a (kf_wi b 77 2 v) := fun h => kp_chM.ws h rfl
    have w2 : ∀ {a b : kf_St} {j : Nat} {v : Int32}, kp_chM (fun r => r = 78) (fun j => j = 2) a b → kp_chM (fun r => r = 78) (fun j => j = 2) a (kf_wi b 78 j v) := fun h => kp_chM.wi h rfl (by decide)
    exact w1 (w2 (w1 (w2 (w1 (w2 (w1 (w2 c0)))))))
  · have hi' : i < l + 4 := hi
    show _ = if i = l + 3 then kp_b1 v 0 else if i = l + 2 then kp_b1 v 8 else if i = l + 1 then kp_b1 v 16 else if i = l then kp_b1 v 24 else b i
    rw [kp_wi_row (by decide)]
    by_cases b3 : i = l + 3
    · rw [if_pos b3, b3, kp_wi_same]
    rw [if_neg b3, kp_wi_col b3, kp_wi_row (by decide)]
    by_cases b2 : i = l + 2
    · rw [if_pos b2, b2, kp_wi_same]
    rw [if_neg b2, kp_wi_col b2, kp_wi_row (by decide)]
    by_cases b1 : i = l + 1
    · rw [if_pos b1, b1, kp_wi_same]
    rw [if_neg b1, kp_wi_col b1, kp_wi_row (by decide)]
    by_cases b0 : i = l
    · rw [if_pos b0, b0, kp_wi_same]
    rw [if_neg b0, kp_wi_col b0]
    exact hb i (by omega)
theorem ko_feed {A : kp_A} {k : Nat} (hA : kp_Aok A k) (a b c d e : Int32) : kp_op A k (f_X11_feed 0 a b c d e) (f_X12_feed 77 a b c d e) := by
  have hl := hA.2.2.2.2.2
  have e20 : nI (ka_l A) + 20 = nI (ka_l A + 20) := nI_add _ _
  by_cases hx : ka_l A + 20 ≤ 2000
  · refine ⟨nI (ka_l A + 20), (ka_T A, ka_S A, A.2.2.1, ka_Q A, A.2.2.2.2.1, kp_ap (kp_ap (kp_ap (kp_ap (kp_ap (ka_l A, ka_b A) a) b) c) d) e, ka_p A), ⟨hA.1, hA.mo.2.1, hA.mo.2.2.1, hA.mo.2.2.2.1, hA.2.2.2.2.1, hx⟩, fun σ h => ?_, fun σ h => ?_⟩
    · obtain ⟨τ1, a1, a2, a3, a4⟩ := kC_a4 h.2.2.2.2.2.1.1 h.2.2.2.2.2.1.2 (by omega) a
      obtain ⟨τ2, b1, b2, b3, b4⟩ := kC_a4 a3 a4 (show ka_l A + 4 + 4 ≤ 2000 by omega) b
      obtain ⟨τ3, c1, c2, c3, c4⟩ := kC_a4 b3 b4 (show ka_l A + 4 + 4 + 4 ≤ 2000 by omega) c
      obtain ⟨τ4, d1, d2, d3, d4⟩ := kC_a4 c3 c4 (show ka_l A + 4 + 4 + 4 + 4 ≤ 2000 by omega) d
      obtain ⟨τ5, f1, f2, f3, f4⟩ := kC_a4 d3 d4 (show ka_l A + 4 + 4 + 4 + 4 + 4 ≤ 2000 by omega) e
      have cc : kp_ch (fun r => r = 1 ∨ r = 2) σ τ5 := (((a2.tr b2).tr c2).tr d2).tr f2
      refine ⟨τ5, ?_, kC_oth hA.1.1.1 h (cc.mono (fun r e => by omega)) ⟨rfl, rfl, rfl, rfl, rfl⟩ ?_ ⟨f3, f4⟩⟩
      · have q : f_X8_hasRoomFor 1 20 σ = some (1, σ) := by
          unfold f_X8_hasRoomFor
          rw [h.2.2.2.2.2.1.1, e20, if_neg (show ¬ (2000 : Int32) < nI (ka_l A + 20) from nI_nlt (a := 2000) (b := ka_l A + 20) (by omega) (by decide))]
        unfold f_X11_feed
        simp (disch := omega) only [↓reduceIte, kz_lt, Option.bind_some, kz_ix, kz_leT, kz_leF, kz_ltT, kz_ltF, kz_lt0, kz_0le, kz_0ltT, kz_le0F, kz_eq0F, kz_10, kz_00, kz_11, kz_01, nI_clamp, nI_1, nI_add, pk_mul, kc0, kc1, kc2, kc3, kc4, kc5, kc6, kc7, kc8, kc9, kc10, kx0, kx1, kx2, kx3, kx4, kx5, kx6, kx7, kx8, kr0_0, kr0_1, kr0_2, kr0_3, kr0_4, kr0_5, kr0_6, kr0_7, kr0_8, kr0_9, kr1_1, kr1_2, kr1_3, kr1_4, kr1_5, kr7_6, kr7_7, kr7_8, kr7_9, kr7_10, kr7_11, kr7_12, kr7_13, kr7_14, kr7_15, kr7_16, kr16_1, kr16_2, kr19_1, kr19_2, kr22_1, kr22_2, kr25_6, kr25_7, kr25_8, kr25_9, kr25_10, kr25_11, kr25_12, kr25_13, kr25_14, kr25_15, kr25_16, kr34_1, kr34_2, kr37_1, kr37_2, kr40_1, kr40_2, kr43_2, kr43_3, kr44_0, kr44_1, kr44_4, kr46_0, kr48_0, kr50_0, kr52_0, kr54_0, kr56_0, kr60_3, kr60_4, kr63_0, kr63_1, kr63_2, kr66_0, kr66_1, kr66_2, kr66_3, kr66_4, kr67_0, kr70_0, kr70_1, kr70_2, kr72_1, kr72_2, kr72_3, kr72_4, kr72_5, kr72_6, kr72_7, kl2, kl3, kl4, kl5, kl6, kl8, kl9, kl10, kl11, kl12, kl13, kl14, kl15, kl17, kl18, kl20, kl21, kl23, kl24, kl26, kl27, kl28, kl29, kl30, kl31, kl32, kl33, kl35, kl36, kl38, kl39, kl41, kl42, kl45, kl47, kl49, kl51, kl53, kl55, kl57, kl58, kl59, kl61, kl62, kl64, kl65, kl68, kl69, kl71, kl73, kl74, kl75, kl76, q, a1, b1, c1, d1, f1, f3]
        rfl
      · rw [cc.1 72 (by omega), cc.1 73 (by omega), cc.1 74 (by omega), cc.1 75 (by omega)]; exact h.2.2.2.2.1
    · obtain ⟨τ1, a1, a2, a3, a4⟩ := kM_a4 h.2.2.2.2.2.1.1 h.2.2.2.2.2.1.2 (by omega) a
      obtain ⟨τ2, b1, b2, b3, b4⟩ := kM_a4 a3 a4 (show ka_l A + 4 + 4 ≤ 2000 by omega) b
      obtain ⟨τ3, c1, c2, c3, c4⟩ := kM_a4 b3 b4 (show ka_l A + 4 + 4 + 4 ≤ 2000 by omega) c
      obtain ⟨τ4, d1, d2, d3, d4⟩ := kM_a4 c3 c4 (show ka_l A + 4 + 4 + 4 + 4 ≤ 2000 by omega) d
      obtain ⟨τ5, f1, f2, f3, f4⟩ := kM_a4 d3 d4 (show ka_l A + 4 + 4 + 4 + 4 + 4 ≤ 2000 by omega) e
      have cc : kp_chM (fun r => r = 78) (fun j => j = 2) σ τ5 := (((a2.tr b2).tr c2).tr d2).tr f2
      refine ⟨τ5, ?_, kM_oth h (cc.mono (fun r e => by omega) (fun r e => by omega)) ⟨rfl, rfl, rfl, rfl, rfl⟩ ?_ ⟨f3, f4⟩⟩
      · unfold f_X12_feed
        rw [h.2.2.2.2.2.1.1, e20, if_pos (show nI (ka_l A + 20) ≤ (2000 : Int32) from nI_le (a := ka_l A + 20) (b := 2000) (by omega) (by decide))]
        simp (disch := omega) only [↓reduceIte, kz_lt, Option.bind_some, kz_ix, kz_leT, kz_leF, kz_ltT, kz_ltF, kz_lt0, kz_0le, kz_0ltT, kz_le0F, kz_eq0F, kz_10, kz_00, kz_11, kz_01, nI_clamp, nI_1, nI_add, pk_mul, kc0, kc1, kc2, kc3, kc4, kc5, kc6, kc7, kc8, kc9, kc10, kx0, kx1, kx2, kx3, kx4, kx5, kx6, kx7, kx8, kr77_1, kr77_3, kr77_5, kr77_6, kr77_7, kr77_8, kr77_9, kr77_21, kr77_22, kr77_23, kr77_24, kr77_25, kr77_26, kr77_27, kr77_28, kr77_29, kr77_30, kr77_31, kr77_32, kr77_33, kr77_34, kr77_35, kr77_36, kr77_38, kr77_39, kr77_40, kr77_41, kr77_42, kr77_44, kr77_45, kr77_46, kr77_48, kr77_49, kr77_51, kr77_52, kr77_55, kr77_57, kr77_58, kr77_59, kr77_61, kr77_62, kr77_63, kr77_64, kr77_65, kl78, kl79, kl80, kl81, kl82, kl83, kl84, kl85, kl86, kl87, kl88, kl89, kl90, kl91, kl92, kl93, kl94, kl95, kl96, kl97, kl98, kl99, kl100, kl101, kl102, kl103, kl104, kl105, kl106, kl107, kl108, kl109, kl110, kl111, kl112, kl113, kl114, kl115, kl116, kl117, kl118, kl119, kl120, kl121, a1, b1, c1, d1, f1, f3]
        rfl
      · rw [cc.2.1 60 (by omega), cc.1 117 (by omega) (by omega), cc.1 118 (by omega) (by omega), cc.1 119 (by omega) (by omega)]; exact h.2.2.2.2.1
  · refine kp_qq.op hA (kp_qq.st (-1) (fun σ h => ?_) (fun σ h => ?_))
    · unfold f_X11_feed f_X8_hasRoomFor
      rw [kr0_0, h.2.2.2.2.2.1.1, e20, if_pos (show (2000 : Int32) < nI (ka_l A + 20) from nI_lt (a := 2000) (b := ka_l A + 20) (by omega) (by omega)), Option.bind_some]
      exact if_pos rfl
    · unfold f_X12_feed
      rw [h.2.2.2.2.2.1.1, e20, if_neg (show ¬ nI (ka_l A + 20) ≤ (2000 : Int32) from nI_ge (a := 2000) (b := ka_l A + 20) (by omega) (by omega))]
