/-! ===== pure: keep, days, undo, hold, restore ===== -/
def kp_fp (K r : Nat) : Nat := if K / 2 ^ r % 2 = 1 then K - 2 ^ r else K + 2 ^ r
theorem kp_fp_all : ∀ r, r < 10 → ∀ K, K < 1024 → (nI K ^^^ ((1 : Int32) <<< (nI r &&& 31))) = nI (kp_fp K r) := by decide +kernel
theorem kp_fp_bt : ∀ r, r < 10 → ∀ K, K < 1024 → ∀ i, i < 10 → kp_bt (kp_fp K r) i = if i = r then 1 - kp_bt K r else kp_bt K i := by decide +kernel
theorem kp_fp_lt : ∀ n, n ≤ 10 → ∀ r, r < n → ∀ K, K < 2 ^ n → kp_fp K r < 2 ^ n := by decide +kernel
theorem ko_keep {A : kp_A} {k : Nat} (hA : kp_Aok A k) (x y : Int32) (hy : y = 0 ∨ y = 1) : kp_op A k (f_X11_keep 0 x y) (f_X12_keep 77 x y) := by
  have h10 := hA.1.1.2.2
  have h6 := hA.1.1.1
  have hK := kp_kept hA
  by_cases hx : kp_is x (kt_nr (ka_T A)) = true
  · obtain ⟨r, hr, rfl⟩ := kp_is_t (by omega) hx
    have hr10 : r < 10 := by omega
    have b2 : kp_bt (ka_S A).2.2.1 r < 2 := Nat.mod_lt _ (by decide)
    by_cases hb : nI (kp_bt (ka_S A).2.2.1 r) = y
    · refine kp_qq.op hA (kp_qq.st 0 (fun σ h => ?_) (fun σ h => ?_))
      · unfold f_X11_keep f_X11_keep_31
        simp (disch := omega) only [↓reduceIte, kz_lt, Option.bind_some, kz_ix, kz_leT, kz_leF, kz_ltT, kz_ltF, kz_lt0, kz_0le, kz_0ltT, kz_le0F, kz_eq0F, kz_10, kz_00, kz_11, kz_01, nI_clamp, nI_1, nI_add, pk_mul, kc0, kc1, kc2, kc3, kc4, kc5, kc6, kc7, kc8, kc9, kc10, kx0, kx1, kx2, kx3, kx4, kx5, kx6, kx7, kx8, kr0_0, kr0_1, kr0_2, kr0_3, kr0_4, kr0_5, kr0_6, kr0_7, kr0_8, kr0_9, kr1_1, kr1_2, kr1_3, kr1_4, kr1_5, kr7_6, kr7_7, kr7_8, kr7_9, kr7_10, kr7_11, kr7_12, kr7_13, kr7_14, kr7_15, kr7_16, kr16_1, kr16_2, kr19_1, kr19_2, kr22_1, kr22_2, kr25_6, kr25_7, kr25_8, kr25_9, kr25_10, kr25_11, kr25_12, kr25_13, kr25_14, kr25_15, kr25_16, kr34_1, kr34_2, kr37_1, kr37_2, kr40_1, kr40_2, kr43_2, kr43_3, kr44_0, kr44_1, kr44_4, kr46_0, kr48_0, kr50_0, kr52_0, kr54_0, kr56_0, kr60_3, kr60_4, kr63_0, kr63_1, kr63_2, kr66_0, kr66_1, kr66_2, kr66_3, kr66_4, kr67_0, kr70_0, kr70_1, kr70_2, kr72_1, kr72_2, kr72_3, kr72_4, kr72_5, kr72_6, kr72_7, kl2, kl3, kl4, kl5, kl6, kl8, kl9, kl10, kl11, kl12, kl13, kl14, kl15, kl17, kl18, kl20, kl21, kl23, kl24, kl26, kl27, kl28, kl29, kl30, kl31, kl32, kl33, kl35, kl36, kl38, kl39, kl41, kl42, kl45, kl47, kl49, kl51, kl53, kl55, kl57, kl58, kl59, kl61, kl62, kl64, kl65, kl68, kl69, kl71, kl73, kl74, kl75, kl76, kC_rnd hA h hr, h.2.1.2.2.1, kp_bit (show (ka_S A).2.2.1 < 2 ^ 31 by omega) hr10]
        rcases hy with rfl | rfl
        · rw [if_pos rfl, if_pos hb]
        · rw [if_neg (by decide), if_pos hb]
      · obtain ⟨lv, hm⟩ := h.1
        unfold f_X12_keep f_X12_keep_26
        simp (disch := omega) only [↓reduceIte, kz_lt, Option.bind_some, kz_ix, kz_leT, kz_leF, kz_ltT, kz_ltF, kz_lt0, kz_0le, kz_0ltT, kz_le0F, kz_eq0F, kz_10, kz_00, kz_11, kz_01, nI_clamp, nI_1, nI_add, pk_mul, kc0, kc1, kc2, kc3, kc4, kc5, kc6, kc7, kc8, kc9, kc10, kx0, kx1, kx2, kx3, kx4, kx5, kx6, kx7, kx8, kr77_1, kr77_3, kr77_5, kr77_6, kr77_7, kr77_8, kr77_9, kr77_21, kr77_22, kr77_23, kr77_24, kr77_25, kr77_26, kr77_27, kr77_28, kr77_29, kr77_30, kr77_31, kr77_32, kr77_33, kr77_34, kr77_35, kr77_36, kr77_38, kr77_39, kr77_40, kr77_41, kr77_42, kr77_44, kr77_45, kr77_46, kr77_48, kr77_49, kr77_51, kr77_52, kr77_55, kr77_57, kr77_58, kr77_59, kr77_61, kr77_62, kr77_63, kr77_64, kr77_65, kl78, kl79, kl80, kl81, kl82, kl83, kl84, kl85, kl86, kl87, kl88, kl89, kl90, kl91, kl92, kl93, kl94, kl95, kl96, kl97, kl98, kl99, kl100, kl101, kl102, kl103, kl104, kl105, kl106, kl107, kl108, kl109, kl110, kl111, kl112, kl113, kl114, kl115, kl116, kl117, kl118, kl119, kl120, kl121, kM_rnd hA.1 hm hr, kn54, h.2.1.2.2.1 r hr10]
        rw [hb]
        rcases hy with rfl | rfl
        · rw [if_neg (by decide), if_pos rfl]
        · rw [if_pos rfl, if_pos rfl]
    · have hb2 : nI (1 - kp_bt (ka_S A).2.2.1 r) = y := by
        rcases (show kp_bt (ka_S A).2.2.1 r = 0 ∨ kp_bt (ka_S A).2.2.1 r = 1 by omega) with e | e
        · rw [e] at hb ⊢
          rcases hy with rfl | rfl
          · exact absurd rfl hb
          · rfl
        · rw [e] at hb ⊢
          rcases hy with rfl | rfl
          · rfl
          · exact absurd rfl hb
      refine ⟨1, kA_do A ((ka_S A).1, (ka_S A).2.1, kp_fp (ka_S A).2.2.1 r, (ka_S A).2.2.2), kA_do_ok hA ⟨hA.2.1.1, hA.2.1.2.1, kp_fp_lt _ h10 r hr _ hA.2.1.2.2.1, hA.mo.2.1.2.2.2⟩, fun σ h => ?_, fun σ h => ?_⟩
      · obtain ⟨τ, a1, a2, a3, a4, a5, a6⟩ := kC_rem hA h
        refine ⟨kf_wi τ 44 2 (nI (kp_fp (ka_S A).2.2.1 r)), ?_, ?_⟩
        · unfold f_X11_keep f_X11_keep_31
          simp (disch := omega) only [↓reduceIte, kz_lt, Option.bind_some, kz_ix, kz_leT, kz_leF, kz_ltT, kz_ltF, kz_lt0, kz_0le, kz_0ltT, kz_le0F, kz_eq0F, kz_10, kz_00, kz_11, kz_01, nI_clamp, nI_1, nI_add, pk_mul, kc0, kc1, kc2, kc3, kc4, kc5, kc6, kc7, kc8, kc9, kc10, kx0, kx1, kx2, kx3, kx4, kx5, kx6, kx7, kx8, kr0_0, kr0_1, kr0_2, kr0_3, kr0_4, kr0_5, kr0_6, kr0_7, kr0_8, kr0_9, kr1_1, kr1_2, kr1_3, kr1_4, kr1_5, kr7_6, kr7_7, kr7_8, kr7_9, kr7_10, kr7_11, kr7_12, kr7_13, kr7_14, kr7_15, kr7_16, kr16_1, kr16_2, kr19_1, kr19_2, kr22_1, kr22_2, kr25_6, kr25_7, kr25_8, kr25_9, kr25_10, kr25_11, kr25_12, kr25_13, kr25_14, kr25_15, kr25_16, kr34_1, kr34_2, kr37_1, kr37_2, kr40_1, kr40_2, kr43_2, kr43_3, kr44_0, kr44_1, kr44_4, kr46_0, kr48_0, kr50_0, kr52_0, kr54_0, kr56_0, kr60_3, kr60_4, kr63_0, kr63_1, kr63_2, kr66_0, kr66_1, kr66_2, kr66_3, kr66_4, kr67_0, kr70_0, kr70_1, kr70_2, kr72_1, kr72_2, kr72_3, kr72_4, kr72_5, kr72_6, kr72_7, kl2, kl3, kl4, kl5, kl6, kl8, kl9, kl10, kl11, kl12, kl13, kl14, kl15, kl17, kl18, kl20, kl21, kl23, kl24, kl26, kl27, kl28, kl29, kl30, kl31, kl32, kl33, kl35, kl36, kl38, kl39, kl41, kl42, kl45, kl47, kl49, kl51, kl53, kl55, kl57, kl58, kl59, kl61, kl62, kl64, kl65, kl68, kl69, kl71, kl73, kl74, kl75, kl76, kC_rnd hA h hr, h.2.1.2.2.1, kp_bit (show (ka_S A).2.2.1 < 2 ^ 31 by omega) hr10, a1, a6.2.2.1, kp_fp_all r hr10 _ hK]
          rcases hy with rfl | rfl
          · rw [if_pos rfl, if_neg hb]
          · rw [if_neg (by decide), if_neg hb]
        · have b2 : kp_ch (fun r => r = 44) τ (kf_wi τ 44 2 (nI (kp_fp (ka_S A).2.2.1 r))) := kp_ch.wi (S := fun r => r = 44) kp_ch.rf rfl
          have cc : kp_ch kp_yC σ (kf_wi τ 44 2 (nI (kp_fp (ka_S A).2.2.1 r))) := (a2.mono (fun r e => by unfold kp_yC; omega)).tr (b2.mono (fun r e => by unfold kp_yC kp_xC; omega))
          refine kC_did h cc ?_ ?_ ⟨fun x hx => ?_, fun i hi => ?_, ?_, ?_⟩
          · rw [b2.1 60 (by omega)]; exact a3
          · exact a4.ch (b2.1 60 (by omega)) (b2.1 61 (by omega))
          · rw [kp_cD_eq (σ := τ) (kz_rowf (by omega)) (kz_rowf (by omega))]; exact a6.1 x hx
          · rw [kp_wi_row (by decide)]; exact a6.2.1 i hi
          · exact kp_wi_same _ _ _ _
          · rw [kp_wi_col (by decide)]; exact a6.2.2.2
      · obtain ⟨lv, τ, e, c', hm, hm', hs, -⟩ := kM_co hA h
        have b3 : kp_fS ((kf_wi τ 112 (54 + r) y).1 112) ((ka_S A).1, (ka_S A).2.1, kp_fp (ka_S A).2.2.1 r, (ka_S A).2.2.2) := by
          have q := hs.bit (v := y) (K' := kp_fp (ka_S A).2.2.1 r) hr10 (fun i hi => by
            rw [kp_fp_bt r hr10 _ hK i hi]
            by_cases b : i = r
            · rw [if_pos b, if_pos b]; exact hb2
            · rw [if_neg b, if_neg b])
          exact q.ch (fun j hj => by
            by_cases b : j = 54 + r
            · rw [if_pos b, b, kp_wi_same]
            · rw [if_neg b, kp_wi_col b])
        obtain ⟨σ', r1, r2, r3, -⟩ := kM_did h (kp_chM.wi (S := kp_xM) (k := 112) (j := 54 + r) (v := y) c' (by unfold kp_xM; omega) (by decide)) b3
        refine ⟨σ', ?_, r2, r3⟩
        unfold f_X12_keep f_X12_keep_26 f_X12_keep_53
        rcases hy with rfl | rfl
        · have e1 : kp_bt (ka_S A).2.2.1 r = 1 := by
            rcases (show kp_bt (ka_S A).2.2.1 r = 0 ∨ kp_bt (ka_S A).2.2.1 r = 1 by omega) with e | e
            · rw [e] at hb; exact absurd rfl hb
            · exact e
          simp (disch := omega) only [↓reduceIte, kz_lt, Option.bind_some, kz_ix, kz_leT, kz_leF, kz_ltT, kz_ltF, kz_lt0, kz_0le, kz_0ltT, kz_le0F, kz_eq0F, kz_10, kz_00, kz_11, kz_01, nI_clamp, nI_1, nI_add, pk_mul, kc0, kc1, kc2, kc3, kc4, kc5, kc6, kc7, kc8, kc9, kc10, kx0, kx1, kx2, kx3, kx4, kx5, kx6, kx7, kx8, kr77_1, kr77_3, kr77_5, kr77_6, kr77_7, kr77_8, kr77_9, kr77_21, kr77_22, kr77_23, kr77_24, kr77_25, kr77_26, kr77_27, kr77_28, kr77_29, kr77_30, kr77_31, kr77_32, kr77_33, kr77_34, kr77_35, kr77_36, kr77_38, kr77_39, kr77_40, kr77_41, kr77_42, kr77_44, kr77_45, kr77_46, kr77_48, kr77_49, kr77_51, kr77_52, kr77_55, kr77_57, kr77_58, kr77_59, kr77_61, kr77_62, kr77_63, kr77_64, kr77_65, kl78, kl79, kl80, kl81, kl82, kl83, kl84, kl85, kl86, kl87, kl88, kl89, kl90, kl91, kl92, kl93, kl94, kl95, kl96, kl97, kl98, kl99, kl100, kl101, kl102, kl103, kl104, kl105, kl106, kl107, kl108, kl109, kl110, kl111, kl112, kl113, kl114, kl115, kl116, kl117, kl118, kl119, kl120, kl121, kM_rnd hA.1 hm hr, kn54, h.2.1.2.2.1 r hr10, e1, e, r1]
          rfl
        · have e1 : kp_bt (ka_S A).2.2.1 r = 0 := by
            rcases (show kp_bt (ka_S A).2.2.1 r = 0 ∨ kp_bt (ka_S A).2.2.1 r = 1 by omega) with e | e
            · exact e
            · rw [e] at hb; exact absurd rfl hb
          simp (disch := omega) only [↓reduceIte, kz_lt, Option.bind_some, kz_ix, kz_leT, kz_leF, kz_ltT, kz_ltF, kz_lt0, kz_0le, kz_0ltT, kz_le0F, kz_eq0F, kz_10, kz_00, kz_11, kz_01, nI_clamp, nI_1, nI_add, pk_mul, kc0, kc1, kc2, kc3, kc4, kc5, kc6, kc7, kc8, kc9, kc10, kx0, kx1, kx2, kx3, kx4, kx5, kx6, kx7, kx8, kr77_1, kr77_3, kr77_5, kr77_6, kr77_7, kr77_8, kr77_9, kr77_21, kr77_22, kr77_23, kr77_24, kr77_25, kr77_26, kr77_27, kr77_28, kr77_29, kr77_30, kr77_31, kr77_32, kr77_33, kr77_34, kr77_35, kr77_36, kr77_38, kr77_39, kr77_40, kr77_41, kr77_42, kr77_44, kr77_45, kr77_46, kr77_48, kr77_49, kr77_51, kr77_52, kr77_55, kr77_57, kr77_58, kr77_59, kr77_61, kr77_62, kr77_63, kr77_64, kr77_65, kl78, kl79, kl80, kl81, kl82, kl83, kl84, kl85, kl86, kl87, kl88, kl89, kl90, kl91, kl92, kl93, kl94, kl95, kl96, kl97, kl98, kl99, kl100, kl101, kl102, kl103, kl104, kl105, kl106, kl107, kl108, kl109, kl110, kl111, kl112, kl113, kl114, kl115, kl116, kl117, kl118, kl119, kl120, kl121, kM_rnd hA.1 hm hr, kn54, h.2.1.2.2.1 r hr10, e1, e, r1]
          rfl
  · refine kp_qq.op hA (kp_qq.st 0 (fun σ h => ?_) (fun σ h => ?_))
    · unfold f_X11_keep
      simp (disch := omega) only [↓reduceIte, kz_lt, Option.bind_some, kz_ix, kz_leT, kz_leF, kz_ltT, kz_ltF, kz_lt0, kz_0le, kz_0ltT, kz_le0F, kz_eq0F, kz_10, kz_00, kz_11, kz_01, nI_clamp, nI_1, nI_add, pk_mul, kc0, kc1, kc2, kc3, kc4, kc5, kc6, kc7, kc8, kc9, kc10, kx0, kx1, kx2, kx3, kx4, kx5, kx6, kx7, kx8, kr0_0, kr0_1, kr0_2, kr0_3, kr0_4, kr0_5, kr0_6, kr0_7, kr0_8, kr0_9, kr1_1, kr1_2, kr1_3, kr1_4, kr1_5, kr7_6, kr7_7, kr7_8, kr7_9, kr7_10, kr7_11, kr7_12, kr7_13, kr7_14, kr7_15, kr7_16, kr16_1, kr16_2, kr19_1, kr19_2, kr22_1, kr22_2, kr25_6, kr25_7, kr25_8, kr25_9, kr25_10, kr25_11, kr25_12, kr25_13, kr25_14, kr25_15, kr25_16, kr34_1, kr34_2, kr37_1, kr37_2, kr40_1, kr40_2, kr43_2, kr43_3, kr44_0, kr44_1, kr44_4, kr46_0, kr48_0, kr50_0, kr52_0, kr54_0, kr56_0, kr60_3, kr60_4, kr63_0, kr63_1, kr63_2, kr66_0, kr66_1, kr66_2, kr66_3, kr66_4, kr67_0, kr70_0, kr70_1, kr70_2, kr72_1, kr72_2, kr72_3, kr72_4, kr72_5, kr72_6, kr72_7, kl2, kl3, kl4, kl5, kl6, kl8, kl9, kl10, kl11, kl12, kl13, kl14, kl15, kl17, kl18, kl20, kl21, kl23, kl24, kl26, kl27, kl28, kl29, kl30, kl31, kl32, kl33, kl35, kl36, kl38, kl39, kl41, kl42, kl45, kl47, kl49, kl51, kl53, kl55, kl57, kl58, kl59, kl61, kl62, kl64, kl65, kl68, kl69, kl71, kl73, kl74, kl75, kl76, kC_rndF hA h hx]
    · obtain ⟨lv, hm⟩ := h.1
      unfold f_X12_keep
      simp (disch := omega) only [↓reduceIte, kz_lt, Option.bind_some, kz_ix, kz_leT, kz_leF, kz_ltT, kz_ltF, kz_lt0, kz_0le, kz_0ltT, kz_le0F, kz_eq0F, kz_10, kz_00, kz_11, kz_01, nI_clamp, nI_1, nI_add, pk_mul, kc0, kc1, kc2, kc3, kc4, kc5, kc6, kc7, kc8, kc9, kc10, kx0, kx1, kx2, kx3, kx4, kx5, kx6, kx7, kx8, kr77_1, kr77_3, kr77_5, kr77_6, kr77_7, kr77_8, kr77_9, kr77_21, kr77_22, kr77_23, kr77_24, kr77_25, kr77_26, kr77_27, kr77_28, kr77_29, kr77_30, kr77_31, kr77_32, kr77_33, kr77_34, kr77_35, kr77_36, kr77_38, kr77_39, kr77_40, kr77_41, kr77_42, kr77_44, kr77_45, kr77_46, kr77_48, kr77_49, kr77_51, kr77_52, kr77_55, kr77_57, kr77_58, kr77_59, kr77_61, kr77_62, kr77_63, kr77_64, kr77_65, kl78, kl79, kl80, kl81, kl82, kl83, kl84, kl85, kl86, kl87, kl88, kl89, kl90, kl91, kl92, kl93, kl94, kl95, kl96, kl97, kl98, kl99, kl100, kl101, kl102, kl103, kl104, kl105, kl106, kl107, kl108, kl109, kl110, kl111, kl112, kl113, kl114, kl115, kl116, kl117, kl118, kl119, kl120, kl121, kM_rndF hA.1 hm hx]
/-! days -/
def kp_zC (r : Nat) : Prop := r = 44 ∨ (46 ≤ r ∧ r ≤ 58) ∨ kp_xC r
theorem kC_p67 {T : kp_T} {σ : kf_St} {S : kp_S} (hT : kp_Tok T) (h : kp_CT T σ) (hS : kp_cS σ (kt_nd T) S) (hD : ∀ d, d < kt_nd T → kp_Dok (S.1 d)) (hy : S.2.2.2 < 2 ^ 30) (hK : S.2.2.1 < 2 ^ 31) : ∃ σ', f_X11_passOneDay_67 kf_F 0 0 σ = some σ' ∧ kp_ch kp_zC σ σ' ∧ kp_cS σ' (kt_nd T) (fun x => if x < kt_nd T then kp_dy T x S.2.2.1 (nI (kt_se T)) S.2.2.2 (S.1 x) else S.1 x, S.2.1, S.2.2.1, S.2.2.2 + 1) := by
  have h6 := hT.1.1
  refine kp_run (n := kt_nd T) (fun i f => ∀ τ, kp_ch (fun r => (46 ≤ r ∧ r ≤ 57) ∨ kp_xC r) σ τ → (∀ d, d < kt_nd T → kp_cD τ (46 + 2 * d) = if d < i then kp_dy T d S.2.2.1 (nI (kt_se T)) S.2.2.2 (S.1 d) else S.1 d) → ∃ σ', f_X11_passOneDay_67 f 0 (nI i) τ = some σ' ∧ kp_ch kp_zC σ σ' ∧ kp_cS σ' (kt_nd T) (fun x => if x < kt_nd T then kp_dy T x S.2.2.1 (nI (kt_se T)) S.2.2.2 (S.1 x) else S.1 x, S.2.1, S.2.2.1, S.2.2.2 + 1)) (by omega) (fun f τ cc hd => ?_) (fun i hi f ih τ cc hd => ?_) σ kp_ch.rf (fun d hd => by rw [if_neg (Nat.not_lt_zero d)]; exact hS.1 d hd)
  · have h' := h.ch (τ := τ) (fun r a b c d => cc.1 r (by unfold kp_xC; omega))
    have e44 : τ.1 44 = σ.1 44 := cc.1 44 (by unfold kp_xC; omega)
    refine ⟨kf_wi τ 44 3 (nI (S.2.2.2 + 1)), ?_, kp_ch.wi (S := kp_zC) (cc.mono (fun r e => by unfold kp_xC at e; unfold kp_zC kp_xC; omega)) (by unfold kp_zC; omega), fun x hx => ?_, fun i hi => ?_, ?_, ?_⟩
    · show f_X11_passOneDay_67_s _ 0 (nI (kt_nd T)) τ = _
      unfold f_X11_passOneDay_67_s
      simp (disch := omega) only [↓reduceIte, kz_lt, Option.bind_some, kz_ix, kz_leT, kz_leF, kz_ltT, kz_ltF, kz_lt0, kz_0le, kz_0ltT, kz_le0F, kz_eq0F, kz_10, kz_00, kz_11, kz_01, nI_clamp, nI_1, nI_add, pk_mul, kc0, kc1, kc2, kc3, kc4, kc5, kc6, kc7, kc8, kc9, kc10, kx0, kx1, kx2, kx3, kx4, kx5, kx6, kx7, kx8, kr0_0, kr0_1, kr0_2, kr0_3, kr0_4, kr0_5, kr0_6, kr0_7, kr0_8, kr0_9, kr1_1, kr1_2, kr1_3, kr1_4, kr1_5, kr7_6, kr7_7, kr7_8, kr7_9, kr7_10, kr7_11, kr7_12, kr7_13, kr7_14, kr7_15, kr7_16, kr16_1, kr16_2, kr19_1, kr19_2, kr22_1, kr22_2, kr25_6, kr25_7, kr25_8, kr25_9, kr25_10, kr25_11, kr25_12, kr25_13, kr25_14, kr25_15, kr25_16, kr34_1, kr34_2, kr37_1, kr37_2, kr40_1, kr40_2, kr43_2, kr43_3, kr44_0, kr44_1, kr44_4, kr46_0, kr48_0, kr50_0, kr52_0, kr54_0, kr56_0, kr60_3, kr60_4, kr63_0, kr63_1, kr63_2, kr66_0, kr66_1, kr66_2, kr66_3, kr66_4, kr67_0, kr70_0, kr70_1, kr70_2, kr72_1, kr72_2, kr72_3, kr72_4, kr72_5, kr72_6, kr72_7, kl2, kl3, kl4, kl5, kl6, kl8, kl9, kl10, kl11, kl12, kl13, kl14, kl15, kl17, kl18, kl20, kl21, kl23, kl24, kl26, kl27, kl28, kl29, kl30, kl31, kl32, kl33, kl35, kl36, kl38, kl39, kl41, kl42, kl45, kl47, kl49, kl51, kl53, kl55, kl57, kl58, kl59, kl61, kl62, kl64, kl65, kl68, kl69, kl71, kl73, kl74, kl75, kl76, h'.1.1, e44, hS.2.2.2]
    · rw [kp_cD_eq (σ := τ) (kz_rowf (by omega)) (kz_rowf (by omega))]; exact hd x hx
    · rw [kp_wi_row (by decide), cc.1 58 (by unfold kp_xC; omega)]; exact hS.2.1 i hi
    · rw [kp_wi_col (by decide), e44]; exact hS.2.2.1
    · exact kp_wi_same _ _ _ _
  · have h' := h.ch (τ := τ) (fun r a b c d => cc.1 r (by unfold kp_xC; omega))
    have e44 : τ.1 44 = σ.1 44 := cc.1 44 (by unfold kp_xC; omega)
    have eD : kp_cD τ (46 + 2 * i) = S.1 i := by rw [hd i hi, if_neg (Nat.lt_irrefl i)]
    obtain ⟨τ2, b1, b2, b3⟩ := kp_passDay (k := 46 + 2 * i) (dy := S.2.2.2) (K := S.2.2.1) (ws := nI (kt_se T)) hT h' (kp_isK_d (by omega)) hi (by rw [eD]; exact hD i hi) hy hK
    rw [eD] at b3
    obtain ⟨σ', c1, c2⟩ := ih τ2 (cc.tr (b2.mono (fun r e => by unfold kp_xC; omega))) (fun d hdd => by
      by_cases b : d = i
      · rw [b, b3, if_pos (Nat.lt_succ_self i)]
      · rw [kp_cD_eq (σ := τ) (b2.1 _ (by omega)) (b2.1 _ (by omega)), hd d hdd]
        by_cases b4 : d < i
        · rw [if_pos b4, if_pos (by omega)]
        · rw [if_neg b4, if_neg (by omega)])
    refine ⟨σ', ?_, c2⟩
    show f_X11_passOneDay_67_s _ 0 (nI i) τ = _
    unfold f_X11_passOneDay_67_s
    simp (disch := omega) only [↓reduceIte, kz_lt, Option.bind_some, kz_ix, kz_leT, kz_leF, kz_ltT, kz_ltF, kz_lt0, kz_0le, kz_0ltT, kz_le0F, kz_eq0F, kz_10, kz_00, kz_11, kz_01, nI_clamp, nI_1, nI_add, pk_mul, kc0, kc1, kc2, kc3, kc4, kc5, kc6, kc7, kc8, kc9, kc10, kx0, kx1, kx2, kx3, kx4, kx5, kx6, kx7, kx8, kr0_0, kr0_1, kr0_2, kr0_3, kr0_4, kr0_5, kr0_6, kr0_7, kr0_8, kr0_9, kr1_1, kr1_2, kr1_3, kr1_4, kr1_5, kr7_6, kr7_7, kr7_8, kr7_9, kr7_10, kr7_11, kr7_12, kr7_13, kr7_14, kr7_15, kr7_16, kr16_1, kr16_2, kr19_1, kr19_2, kr22_1, kr22_2, kr25_6, kr25_7, kr25_8, kr25_9, kr25_10, kr25_11, kr25_12, kr25_13, kr25_14, kr25_15, kr25_16, kr34_1, kr34_2, kr37_1, kr37_2, kr40_1, kr40_2, kr43_2, kr43_3, kr44_0, kr44_1, kr44_4, kr46_0, kr48_0, kr50_0, kr52_0, kr54_0, kr56_0, kr60_3, kr60_4, kr63_0, kr63_1, kr63_2, kr66_0, kr66_1, kr66_2, kr66_3, kr66_4, kr67_0, kr70_0, kr70_1, kr70_2, kr72_1, kr72_2, kr72_3, kr72_4, kr72_5, kr72_6, kr72_7, kl2, kl3, kl4, kl5, kl6, kl8, kl9, kl10, kl11, kl12, kl13, kl14, kl15, kl17, kl18, kl20, kl21, kl23, kl24, kl26, kl27, kl28, kl29, kl30, kl31, kl32, kl33, kl35, kl36, kl38, kl39, kl41, kl42, kl45, kl47, kl49, kl51, kl53, kl55, kl57, kl58, kl59, kl61, kl62, kl64, kl65, kl68, kl69, kl71, kl73, kl74, kl75, kl76, h'.1.1, h'.2.1.2.2, e44, hS.2.2.2, hS.2.2.1, kz_rf45, b1]
    exact c1
theorem kC_pod {T : kp_T} {σ : kf_St} {S : kp_S} (hT : kp_Tok T) (h : kp_CT T σ) (hS : kp_cS σ (kt_nd T) S) (hD : ∀ d, d < kt_nd T → kp_Dok (S.1 d)) (hy : S.2.2.2 < 2 ^ 30) (hK : S.2.2.1 < 2 ^ 31) : ∃ σ', f_X11_passOneDay 0 σ = some σ' ∧ kp_ch kp_zC σ σ' ∧ kp_cS σ' (kt_nd T) (kp_dyS T (nI (kt_se T)) S) := by
  have h6 := hT.1.1
  have h5 := hT.1.2.1
  have h10 := hT.1.2.2
  unfold f_X11_passOneDay
  refine kp_run (n := kt_nr T) (fun i f => ∀ τ, kp_ch (fun r => r = 58) σ τ → (∀ c, c < 5 → τ.1 58 c = kp_by T S.2.2.1 S.2.2.2 i S.2.1 c) → ∃ σ', f_X11_passOneDay_2 f 0 (nI i) τ = some σ' ∧ kp_ch kp_zC σ σ' ∧ kp_cS σ' (kt_nd T) (kp_dyS T (nI (kt_se T)) S)) (by omega) (fun f τ cc hb => ?_) (fun i hi f ih τ cc hb => ?_) σ kp_ch.rf (fun c hc => hS.2.1 c hc)
  · have h' := h.ch (τ := τ) (fun r a b c d => cc.1 r (by omega))
    have hS' : kp_cS τ (kt_nd T) (S.1, kp_by T S.2.2.1 S.2.2.2 (kt_nr T) S.2.1, S.2.2) := ⟨fun d hd => by rw [kp_cD_eq (σ := σ) (cc.1 _ (by omega)) (cc.1 _ (by omega))]; exact hS.1 d hd, hb, by rw [cc.1 44 (by omega)]; exact hS.2.2.1, by rw [cc.1 44 (by omega)]; exact hS.2.2.2⟩
    obtain ⟨σ', a1, a2, a3⟩ := kC_p67 hT h' hS' hD hy hK
    refine ⟨σ', ?_, (cc.mono (fun r e => by unfold kp_zC; omega)).tr a2, a3⟩
    show f_X11_passOneDay_2_s _ 0 (nI (kt_nr T)) τ = _
    unfold f_X11_passOneDay_2_s
    simp (disch := omega) only [↓reduceIte, kz_lt, Option.bind_some, kz_ix, kz_leT, kz_leF, kz_ltT, kz_ltF, kz_lt0, kz_0le, kz_0ltT, kz_le0F, kz_eq0F, kz_10, kz_00, kz_11, kz_01, nI_clamp, nI_1, nI_add, pk_mul, kc0, kc1, kc2, kc3, kc4, kc5, kc6, kc7, kc8, kc9, kc10, kx0, kx1, kx2, kx3, kx4, kx5, kx6, kx7, kx8, kr0_0, kr0_1, kr0_2, kr0_3, kr0_4, kr0_5, kr0_6, kr0_7, kr0_8, kr0_9, kr1_1, kr1_2, kr1_3, kr1_4, kr1_5, kr7_6, kr7_7, kr7_8, kr7_9, kr7_10, kr7_11, kr7_12, kr7_13, kr7_14, kr7_15, kr7_16, kr16_1, kr16_2, kr19_1, kr19_2, kr22_1, kr22_2, kr25_6, kr25_7, kr25_8, kr25_9, kr25_10, kr25_11, kr25_12, kr25_13, kr25_14, kr25_15, kr25_16, kr34_1, kr34_2, kr37_1, kr37_2, kr40_1, kr40_2, kr43_2, kr43_3, kr44_0, kr44_1, kr44_4, kr46_0, kr48_0, kr50_0, kr52_0, kr54_0, kr56_0, kr60_3, kr60_4, kr63_0, kr63_1, kr63_2, kr66_0, kr66_1, kr66_2, kr66_3, kr66_4, kr67_0, kr70_0, kr70_1, kr70_2, kr72_1, kr72_2, kr72_3, kr72_4, kr72_5, kr72_6, kr72_7, kl2, kl3, kl4, kl5, kl6, kl8, kl9, kl10, kl11, kl12, kl13, kl14, kl15, kl17, kl18, kl20, kl21, kl23, kl24, kl26, kl27, kl28, kl29, kl30, kl31, kl32, kl33, kl35, kl36, kl38, kl39, kl41, kl42, kl45, kl47, kl49, kl51, kl53, kl55, kl57, kl58, kl59, kl61, kl62, kl64, kl65, kl68, kl69, kl71, kl73, kl74, kl75, kl76, h'.1.2.2]
    exact a1
  · have h' := h.ch (τ := τ) (fun r a b c d => cc.1 r (by omega))
    have e44 : τ.1 44 = σ.1 44 := cc.1 44 (by omega)
    have hrc := hT.2.2.2.1 i hi
    have q := kp_comes hT h' hi hy hK
    show ∃ σ', f_X11_passOneDay_2_s _ 0 (nI i) τ = some σ' ∧ _
    unfold f_X11_passOneDay_2_s f_X11_passOneDay_59
    by_cases b : kp_cm T S.2.2.1 i S.2.2.2 = true
    · rw [if_pos b] at q
      obtain ⟨σ', c1, c2⟩ := ih (kf_wi τ 58 (kt_rc T i) (kp_by T S.2.2.1 S.2.2.2 i S.2.1 (kt_rc T i) + 1)) (kp_ch.wi (S := fun r => r = 58) cc rfl) (fun c hc => by
        show _ = (if kp_cm T S.2.2.1 i S.2.2.2 = true then _ else _ : Nat → Int32) c
        rw [if_pos b]
        by_cases e : c = kt_rc T i
        · rw [e, kp_wi_same]
          exact (if_pos rfl).symm
        · rw [kp_wi_col e, hb c hc]
          exact (if_neg e).symm)
      refine ⟨σ', ?_, c2⟩
      simp (disch := omega) only [↓reduceIte, kz_lt, Option.bind_some, kz_ix, kz_leT, kz_leF, kz_ltT, kz_ltF, kz_lt0, kz_0le, kz_0ltT, kz_le0F, kz_eq0F, kz_10, kz_00, kz_11, kz_01, nI_clamp, nI_1, nI_add, pk_mul, kc0, kc1, kc2, kc3, kc4, kc5, kc6, kc7, kc8, kc9, kc10, kx0, kx1, kx2, kx3, kx4, kx5, kx6, kx7, kx8, kr0_0, kr0_1, kr0_2, kr0_3, kr0_4, kr0_5, kr0_6, kr0_7, kr0_8, kr0_9, kr1_1, kr1_2, kr1_3, kr1_4, kr1_5, kr7_6, kr7_7, kr7_8, kr7_9, kr7_10, kr7_11, kr7_12, kr7_13, kr7_14, kr7_15, kr7_16, kr16_1, kr16_2, kr19_1, kr19_2, kr22_1, kr22_2, kr25_6, kr25_7, kr25_8, kr25_9, kr25_10, kr25_11, kr25_12, kr25_13, kr25_14, kr25_15, kr25_16, kr34_1, kr34_2, kr37_1, kr37_2, kr40_1, kr40_2, kr43_2, kr43_3, kr44_0, kr44_1, kr44_4, kr46_0, kr48_0, kr50_0, kr52_0, kr54_0, kr56_0, kr60_3, kr60_4, kr63_0, kr63_1, kr63_2, kr66_0, kr66_1, kr66_2, kr66_3, kr66_4, kr67_0, kr70_0, kr70_1, kr70_2, kr72_1, kr72_2, kr72_3, kr72_4, kr72_5, kr72_6, kr72_7, kl2, kl3, kl4, kl5, kl6, kl8, kl9, kl10, kl11, kl12, kl13, kl14, kl15, kl17, kl18, kl20, kl21, kl23, kl24, kl26, kl27, kl28, kl29, kl30, kl31, kl32, kl33, kl35, kl36, kl38, kl39, kl41, kl42, kl45, kl47, kl49, kl51, kl53, kl55, kl57, kl58, kl59, kl61, kl62, kl64, kl65, kl68, kl69, kl71, kl73, kl74, kl75, kl76, h'.1.2.2, e44, hS.2.2.2, hS.2.2.1, q, (h'.2.2.2.2.1 i hi).1, hb (kt_rc T i) (by omega)]
      exact c1
    · rw [if_neg b] at q
      obtain ⟨σ', c1, c2⟩ := ih τ cc (fun c hc => by
        show _ = (if kp_cm T S.2.2.1 i S.2.2.2 = true then _ else _ : Nat → Int32) c
        rw [if_neg b]; exact hb c hc)
      refine ⟨σ', ?_, c2⟩
      simp (disch := omega) only [↓reduceIte, kz_lt, Option.bind_some, kz_ix, kz_leT, kz_leF, kz_ltT, kz_ltF, kz_lt0, kz_0le, kz_0ltT, kz_le0F, kz_eq0F, kz_10, kz_00, kz_11, kz_01, nI_clamp, nI_1, nI_add, pk_mul, kc0, kc1, kc2, kc3, kc4, kc5, kc6, kc7, kc8, kc9, kc10, kx0, kx1, kx2, kx3, kx4, kx5, kx6, kx7, kx8, kr0_0, kr0_1, kr0_2, kr0_3, kr0_4, kr0_5, kr0_6, kr0_7, kr0_8, kr0_9, kr1_1, kr1_2, kr1_3, kr1_4, kr1_5, kr7_6, kr7_7, kr7_8, kr7_9, kr7_10, kr7_11, kr7_12, kr7_13, kr7_14, kr7_15, kr7_16, kr16_1, kr16_2, kr19_1, kr19_2, kr22_1, kr22_2, kr25_6, kr25_7, kr25_8, kr25_9, kr25_10, kr25_11, kr25_12, kr25_13, kr25_14, kr25_15, kr25_16, kr34_1, kr34_2, kr37_1, kr37_2, kr40_1, kr40_2, kr43_2, kr43_3, kr44_0, kr44_1, kr44_4, kr46_0, kr48_0, kr50_0, kr52_0, kr54_0, kr56_0, kr60_3, kr60_4, kr63_0, kr63_1, kr63_2, kr66_0, kr66_1, kr66_2, kr66_3, kr66_4, kr67_0, kr70_0, kr70_1, kr70_2, kr72_1, kr72_2, kr72_3, kr72_4, kr72_5, kr72_6, kr72_7, kl2, kl3, kl4, kl5, kl6, kl8, kl9, kl10, kl11, kl12, kl13, kl14, kl15, kl17, kl18, kl20, kl21, kl23, kl24, kl26, kl27, kl28, kl29, kl30, kl31, kl32, kl33, kl35, kl36, kl38, kl39, kl41, kl42, kl45, kl47, kl49, kl51, kl53, kl55, kl57, kl58, kl59, kl61, kl62, kl64, kl65, kl68, kl69, kl71, kl73, kl74, kl75, kl76, h'.1.2.2, e44, hS.2.2.2, hS.2.2.1, q]
      exact c1
theorem kp_dyN_out (T : kp_T) (ws : Int32) (S : kp_S) {d : Nat} (hd : kt_nd T ≤ d) : ∀ n, (kp_dyN T ws n S).1 d = S.1 d
  | 0 => rfl
  | n + 1 => by
    rw [kp_dyN_s]
    show (if d < kt_nd T then _ else _) = _
    rw [if_neg (by omega)]
    exact kp_dyN_out T ws S hd n
theorem ko_days {A : kp_A} {k : Nat} (hA : kp_Aok A k) (hk : k ≤ 520) (x : Int32) : kp_op A k (f_X11_days 0 x) (f_X12_days 77 x) := by
  have h6 := hA.1.1.1
  have hy := kp_day hA hk
  have hK := kp_kept hA
  by_cases hx : kp_is x 61 = true
  · obtain ⟨n, hn, rfl⟩ := kp_is_t (by decide) hx
    by_cases n0 : n = 0
    · subst n0
      refine kp_qq.op hA (kp_qq.st (nI (ka_S A).2.2.2) (fun σ h => ?_) (fun σ h => ?_))
      · show f_X11_days 0 0 σ = _
        unfold f_X11_days f_X11_days_27
        show f_X11_days_29_s (f_X11_days_29 999999) 0 0 0 σ = _
        unfold f_X11_days_29_s
        simp +decide (disch := omega) only [↓reduceIte, kz_lt, Option.bind_some, kz_ix, kz_leT, kz_leF, kz_ltT, kz_ltF, kz_lt0, kz_0le, kz_0ltT, kz_le0F, kz_eq0F, kz_10, kz_00, kz_11, kz_01, nI_clamp, nI_1, nI_add, pk_mul, kc0, kc1, kc2, kc3, kc4, kc5, kc6, kc7, kc8, kc9, kc10, kx0, kx1, kx2, kx3, kx4, kx5, kx6, kx7, kx8, kr0_0, kr0_1, kr0_2, kr0_3, kr0_4, kr0_5, kr0_6, kr0_7, kr0_8, kr0_9, kr1_1, kr1_2, kr1_3, kr1_4, kr1_5, kr7_6, kr7_7, kr7_8, kr7_9, kr7_10, kr7_11, kr7_12, kr7_13, kr7_14, kr7_15, kr7_16, kr16_1, kr16_2, kr19_1, kr19_2, kr22_1, kr22_2, kr25_6, kr25_7, kr25_8, kr25_9, kr25_10, kr25_11, kr25_12, kr25_13, kr25_14, kr25_15, kr25_16, kr34_1, kr34_2, kr37_1, kr37_2, kr40_1, kr40_2, kr43_2, kr43_3, kr44_0, kr44_1, kr44_4, kr46_0, kr48_0, kr50_0, kr52_0, kr54_0, kr56_0, kr60_3, kr60_4, kr63_0, kr63_1, kr63_2, kr66_0, kr66_1, kr66_2, kr66_3, kr66_4, kr67_0, kr70_0, kr70_1, kr70_2, kr72_1, kr72_2, kr72_3, kr72_4, kr72_5, kr72_6, kr72_7, kl2, kl3, kl4, kl5, kl6, kl8, kl9, kl10, kl11, kl12, kl13, kl14, kl15, kl17, kl18, kl20, kl21, kl23, kl24, kl26, kl27, kl28, kl29, kl30, kl31, kl32, kl33, kl35, kl36, kl38, kl39, kl41, kl42, kl45, kl47, kl49, kl51, kl53, kl55, kl57, kl58, kl59, kl61, kl62, kl64, kl65, kl68, kl69, kl71, kl73, kl74, kl75, kl76, h.2.1.2.2.2]
      · unfold f_X12_days
        rw [kM_lg (by decide), Option.bind_some]
        simp (disch := omega) only [↓reduceIte, kz_lt, Option.bind_some, kz_ix, kz_leT, kz_leF, kz_ltT, kz_ltF, kz_lt0, kz_0le, kz_0ltT, kz_le0F, kz_eq0F, kz_10, kz_00, kz_11, kz_01, nI_clamp, nI_1, nI_add, pk_mul, kc0, kc1, kc2, kc3, kc4, kc5, kc6, kc7, kc8, kc9, kc10, kx0, kx1, kx2, kx3, kx4, kx5, kx6, kx7, kx8, kr77_1, kr77_3, kr77_5, kr77_6, kr77_7, kr77_8, kr77_9, kr77_21, kr77_22, kr77_23, kr77_24, kr77_25, kr77_26, kr77_27, kr77_28, kr77_29, kr77_30, kr77_31, kr77_32, kr77_33, kr77_34, kr77_35, kr77_36, kr77_38, kr77_39, kr77_40, kr77_41, kr77_42, kr77_44, kr77_45, kr77_46, kr77_48, kr77_49, kr77_51, kr77_52, kr77_55, kr77_57, kr77_58, kr77_59, kr77_61, kr77_62, kr77_63, kr77_64, kr77_65, kl78, kl79, kl80, kl81, kl82, kl83, kl84, kl85, kl86, kl87, kl88, kl89, kl90, kl91, kl92, kl93, kl94, kl95, kl96, kl97, kl98, kl99, kl100, kl101, kl102, kl103, kl104, kl105, kl106, kl107, kl108, kl109, kl110, kl111, kl112, kl113, kl114, kl115, kl116, kl117, kl118, kl119, kl120, kl121, kn69x, h.2.1.2.2.2]
        rfl
    · have n0' : 0 < n := by omega
      generalize hws : nI (kt_se (ka_T A)) = ws
      refine ⟨nI ((ka_S A).2.2.2 + n), kA_do A (kp_dyN (ka_T A) ws n (ka_S A)), kA_do_ok hA ⟨kp_dyN_ok hA.1 hA.2.1.1 n, fun d a b => by rw [kp_dyN_out _ _ _ a]; exact hA.2.1.2.1 d a b, by rw [(kp_dyN_2 _ _ _ n).1]; exact hA.2.1.2.2.1, by rw [(kp_dyN_2 _ _ _ n).2]; have := hA.2.1.2.2.2; omega⟩, fun σ h => ?_, fun σ h => ?_⟩
      · obtain ⟨τ, a1, a2, a3, a4, a5, a6⟩ := kC_rem hA h
        have main : ∃ σ', f_X11_days_29 kf_F 0 (nI n) 0 τ = some (nI ((ka_S A).2.2.2 + n), σ') ∧ kp_ch kp_zC τ σ' ∧ kp_cS σ' (kt_nd (ka_T A)) (kp_dyN (ka_T A) ws n (ka_S A)) := by
          refine kp_run (n := n) (fun i f => ∀ υ, kp_ch kp_zC τ υ → kp_cS υ (kt_nd (ka_T A)) (kp_dyN (ka_T A) ws i (ka_S A)) → ∃ σ', f_X11_days_29 f 0 (nI n) (nI i) υ = some (nI ((ka_S A).2.2.2 + n), σ') ∧ kp_ch kp_zC τ σ' ∧ kp_cS σ' (kt_nd (ka_T A)) (kp_dyN (ka_T A) ws n (ka_S A))) (by omega) (fun f υ cc hS => ?_) (fun i hi f ih υ cc hS => ?_) τ kp_ch.rf a6
          · refine ⟨υ, ?_, cc, hS⟩
            have e := hS.2.2.2
            rw [(kp_dyN_2 _ _ _ n).2] at e
            show f_X11_days_29_s _ 0 (nI n) (nI n) υ = _
            unfold f_X11_days_29_s
            simp (disch := omega) only [↓reduceIte, kz_lt, Option.bind_some, kz_ix, kz_leT, kz_leF, kz_ltT, kz_ltF, kz_lt0, kz_0le, kz_0ltT, kz_le0F, kz_eq0F, kz_10, kz_00, kz_11, kz_01, nI_clamp, nI_1, nI_add, pk_mul, kc0, kc1, kc2, kc3, kc4, kc5, kc6, kc7, kc8, kc9, kc10, kx0, kx1, kx2, kx3, kx4, kx5, kx6, kx7, kx8, kr0_0, kr0_1, kr0_2, kr0_3, kr0_4, kr0_5, kr0_6, kr0_7, kr0_8, kr0_9, kr1_1, kr1_2, kr1_3, kr1_4, kr1_5, kr7_6, kr7_7, kr7_8, kr7_9, kr7_10, kr7_11, kr7_12, kr7_13, kr7_14, kr7_15, kr7_16, kr16_1, kr16_2, kr19_1, kr19_2, kr22_1, kr22_2, kr25_6, kr25_7, kr25_8, kr25_9, kr25_10, kr25_11, kr25_12, kr25_13, kr25_14, kr25_15, kr25_16, kr34_1, kr34_2, kr37_1, kr37_2, kr40_1, kr40_2, kr43_2, kr43_3, kr44_0, kr44_1, kr44_4, kr46_0, kr48_0, kr50_0, kr52_0, kr54_0, kr56_0, kr60_3, kr60_4, kr63_0, kr63_1, kr63_2, kr66_0, kr66_1, kr66_2, kr66_3, kr66_4, kr67_0, kr70_0, kr70_1, kr70_2, kr72_1, kr72_2, kr72_3, kr72_4, kr72_5, kr72_6, kr72_7, kl2, kl3, kl4, kl5, kl6, kl8, kl9, kl10, kl11, kl12, kl13, kl14, kl15, kl17, kl18, kl20, kl21, kl23, kl24, kl26, kl27, kl28, kl29, kl30, kl31, kl32, kl33, kl35, kl36, kl38, kl39, kl41, kl42, kl45, kl47, kl49, kl51, kl53, kl55, kl57, kl58, kl59, kl61, kl62, kl64, kl65, kl68, kl69, kl71, kl73, kl74, kl75, kl76, e]
          · have h' : kp_CT (ka_T A) υ := a5.ch (fun r a b c d => cc.1 r (by unfold kp_zC kp_xC; omega))
            obtain ⟨υ2, b1, b2, b3⟩ := kC_pod hA.1 h' hS (kp_dyN_ok hA.1 hA.2.1.1 i) (by rw [(kp_dyN_2 _ _ _ i).2]; omega) (by rw [(kp_dyN_2 _ _ _ i).1]; omega)
            rw [hws] at b3
            obtain ⟨σ', c1, c2⟩ := ih υ2 (cc.tr b2) b3
            refine ⟨σ', ?_, c2⟩
            show f_X11_days_29_s _ 0 (nI n) (nI i) υ = _
            unfold f_X11_days_29_s
            simp (disch := omega) only [↓reduceIte, kz_lt, Option.bind_some, kz_ix, kz_leT, kz_leF, kz_ltT, kz_ltF, kz_lt0, kz_0le, kz_0ltT, kz_le0F, kz_eq0F, kz_10, kz_00, kz_11, kz_01, nI_clamp, nI_1, nI_add, pk_mul, kc0, kc1, kc2, kc3, kc4, kc5, kc6, kc7, kc8, kc9, kc10, kx0, kx1, kx2, kx3, kx4, kx5, kx6, kx7, kx8, kr0_0, kr0_1, kr0_2, kr0_3, kr0_4, kr0_5, kr0_6, kr0_7, kr0_8, kr0_9, kr1_1, kr1_2, kr1_3, kr1_4, kr1_5, kr7_6, kr7_7, kr7_8, kr7_9, kr7_10, kr7_11, kr7_12, kr7_13, kr7_14, kr7_15, kr7_16, kr16_1, kr16_2, kr19_1, kr19_2, kr22_1, kr22_2, kr25_6, kr25_7, kr25_8, kr25_9, kr25_10, kr25_11, kr25_12, kr25_13, kr25_14, kr25_15, kr25_16, kr34_1, kr34_2, kr37_1, kr37_2, kr40_1, kr40_2, kr43_2, kr43_3, kr44_0, kr44_1, kr44_4, kr46_0, kr48_0, kr50_0, kr52_0, kr54_0, kr56_0, kr60_3, kr60_4, kr63_0, kr63_1, kr63_2, kr66_0, kr66_1, kr66_2, kr66_3, kr66_4, kr67_0, kr70_0, kr70_1, kr70_2, kr72_1, kr72_2, kr72_3, kr72_4, kr72_5, kr72_6, kr72_7, kl2, kl3, kl4, kl5, kl6, kl8, kl9, kl10, kl11, kl12, kl13, kl14, kl15, kl17, kl18, kl20, kl21, kl23, kl24, kl26, kl27, kl28, kl29, kl30, kl31, kl32, kl33, kl35, kl36, kl38, kl39, kl41, kl42, kl45, kl47, kl49, kl51, kl53, kl55, kl57, kl58, kl59, kl61, kl62, kl64, kl65, kl68, kl69, kl71, kl73, kl74, kl75, kl76, b1]
            exact c1
        obtain ⟨σ', m1, m2, m3⟩ := main
        refine ⟨σ', ?_, ?_⟩
        · unfold f_X11_days f_X11_days_27
          simp (disch := omega) only [↓reduceIte, kz_lt, Option.bind_some, kz_ix, kz_leT, kz_leF, kz_ltT, kz_ltF, kz_lt0, kz_0le, kz_0ltT, kz_le0F, kz_eq0F, kz_10, kz_00, kz_11, kz_01, nI_clamp, nI_1, nI_add, pk_mul, kc0, kc1, kc2, kc3, kc4, kc5, kc6, kc7, kc8, kc9, kc10, kx0, kx1, kx2, kx3, kx4, kx5, kx6, kx7, kx8, kr0_0, kr0_1, kr0_2, kr0_3, kr0_4, kr0_5, kr0_6, kr0_7, kr0_8, kr0_9, kr1_1, kr1_2, kr1_3, kr1_4, kr1_5, kr7_6, kr7_7, kr7_8, kr7_9, kr7_10, kr7_11, kr7_12, kr7_13, kr7_14, kr7_15, kr7_16, kr16_1, kr16_2, kr19_1, kr19_2, kr22_1, kr22_2, kr25_6, kr25_7, kr25_8, kr25_9, kr25_10, kr25_11, kr25_12, kr25_13, kr25_14, kr25_15, kr25_16, kr34_1, kr34_2, kr37_1, kr37_2, kr40_1, kr40_2, kr43_2, kr43_3, kr44_0, kr44_1, kr44_4, kr46_0, kr48_0, kr50_0, kr52_0, kr54_0, kr56_0, kr60_3, kr60_4, kr63_0, kr63_1, kr63_2, kr66_0, kr66_1, kr66_2, kr66_3, kr66_4, kr67_0, kr70_0, kr70_1, kr70_2, kr72_1, kr72_2, kr72_3, kr72_4, kr72_5, kr72_6, kr72_7, kl2, kl3, kl4, kl5, kl6, kl8, kl9, kl10, kl11, kl12, kl13, kl14, kl15, kl17, kl18, kl20, kl21, kl23, kl24, kl26, kl27, kl28, kl29, kl30, kl31, kl32, kl33, kl35, kl36, kl38, kl39, kl41, kl42, kl45, kl47, kl49, kl51, kl53, kl55, kl57, kl58, kl59, kl61, kl62, kl64, kl65, kl68, kl69, kl71, kl73, kl74, kl75, kl76, a1, kn60, m1]
        · have cc : kp_ch kp_yC σ σ' := (a2.mono (fun r e => by unfold kp_yC; omega)).tr (m2.mono (fun r e => by unfold kp_zC kp_xC at e; unfold kp_yC kp_xC; omega))
          refine kC_did h cc ?_ ?_ m3
          · rw [m2.1 60 (by unfold kp_zC kp_xC; omega)]; exact a3
          · exact a4.ch (m2.1 60 (by unfold kp_zC kp_xC; omega)) (m2.1 61 (by unfold kp_zC kp_xC; omega))
      · obtain ⟨lv, τ, τ', a1, a2, a3, hm, hm', hs⟩ := kM_cg hA hk h (show n ≤ 60 by omega)
        rw [hws] at hs
        obtain ⟨σ', r1, r2, r3, r4⟩ := kM_did h a3 hs
        rw [(kp_dyN_2 _ _ _ n).2] at r4
        refine ⟨σ', ?_, r2, r3⟩
        unfold f_X12_days
        simp (disch := omega) only [↓reduceIte, kz_lt, Option.bind_some, kz_ix, kz_leT, kz_leF, kz_ltT, kz_ltF, kz_lt0, kz_0le, kz_0ltT, kz_le0F, kz_eq0F, kz_10, kz_00, kz_11, kz_01, nI_clamp, nI_1, nI_add, pk_mul, kc0, kc1, kc2, kc3, kc4, kc5, kc6, kc7, kc8, kc9, kc10, kx0, kx1, kx2, kx3, kx4, kx5, kx6, kx7, kx8, kr77_1, kr77_3, kr77_5, kr77_6, kr77_7, kr77_8, kr77_9, kr77_21, kr77_22, kr77_23, kr77_24, kr77_25, kr77_26, kr77_27, kr77_28, kr77_29, kr77_30, kr77_31, kr77_32, kr77_33, kr77_34, kr77_35, kr77_36, kr77_38, kr77_39, kr77_40, kr77_41, kr77_42, kr77_44, kr77_45, kr77_46, kr77_48, kr77_49, kr77_51, kr77_52, kr77_55, kr77_57, kr77_58, kr77_59, kr77_61, kr77_62, kr77_63, kr77_64, kr77_65, kl78, kl79, kl80, kl81, kl82, kl83, kl84, kl85, kl86, kl87, kl88, kl89, kl90, kl91, kl92, kl93, kl94, kl95, kl96, kl97, kl98, kl99, kl100, kl101, kl102, kl103, kl104, kl105, kl106, kl107, kl108, kl109, kl110, kl111, kl112, kl113, kl114, kl115, kl116, kl117, kl118, kl119, kl120, kl121, kM_lg (show n ≤ 60 by omega), a1, a2, r1, kn69x, r4]
        rfl
  · refine kp_qq.op hA (kp_qq.st (-1) (fun σ h => ?_) (fun σ h => ?_))
    · unfold f_X11_days
      rcases kp_out (n := 60) (by decide) hx with h1 | ⟨h1, h2⟩
      · rw [if_pos h1]
      · rw [if_neg h1, if_neg (show ¬ x ≤ 60 from kp_nlt (n := 60) (by decide) h1 h2)]
    · unfold f_X12_days
      rw [kM_lgF hx, Option.bind_some]
      exact if_pos rfl
/-! undo -/
theorem kC_did2 {A : kp_A} {σ σ' : kf_St} {S : kp_S} {n : Nat} {H : Nat → kp_S} (h : kp_Cr A σ) (c : kp_ch kp_yC σ σ') (e1 : σ'.1 60 1 = σ.1 60 1) (hH : kp_HC σ' (kt_nd (ka_T A)) n H) (hS : kp_cS σ' (kt_nd (ka_T A)) S) : kp_frC σ σ' ∧ kp_Cr (ka_T A, S, (n, H), A.2.2.2) σ' := by
  obtain ⟨h1, h2, h3, h4, h5, h6, h7, h8⟩ := h
  have e : ∀ r, ¬ kp_yC r → σ'.1 r = σ.1 r := c.1
  unfold kp_yC kp_xC at e
  refine ⟨c.frC (fun r q => by unfold kp_yC kp_xC at q; omega), h1.ch (fun r a b d f => e r (by omega)), hS, hH, h4.ch e1 (e 62 (by omega)), ?_, ?_, ?_, ?_⟩
  · rw [e 72 (by omega), e 73 (by omega), e 74 (by omega), e 75 (by omega)]; exact h5
  · rw [e 1 (by omega), e 2 (by omega)]; exact h6
  · rw [e 43 (by omega)]; exact h7
  · rw [c.2]; exact h8
theorem kM_did2 {A : kp_A} {σ σ' : kf_St} {S : kp_S} {n : Nat} {H : Nat → kp_S} (h : kp_Mr A σ) (a2 : kp_chM (fun r => r = 111) (fun j => j = 56) σ σ') (hH : kp_HM σ' n H) (hS : kp_fS (σ'.1 111) S) : kp_frM σ σ' ∧ kp_Mr (ka_T A, S, (n, H), A.2.2.2) σ' := by
  obtain ⟨⟨lv, h1⟩, h2, h3, h4, h5, h6, h7, h8⟩ := h
  have e : ∀ r, ¬ r = 111 → r ≠ 77 → σ'.1 r = σ.1 r := a2.1
  have j : ∀ r, ¬ r = 56 → σ'.1 77 r = σ.1 77 r := a2.2.1
  refine ⟨a2.frM (fun r q => by omega), ⟨lv, h1.ch (fun r a b => e r (by omega) (by omega)) (j 18 (by omega))⟩, hS, hH, h4.ch (e 120 (by omega) (by omega)) (e 121 (by omega) (by omega)), ?_, ?_, ?_, ?_⟩
  · rw [j 60 (by omega), e 117 (by omega) (by omega), e 118 (by omega) (by omega), e 119 (by omega) (by omega)]; exact h5
  · rw [j 2 (by omega), e 78 (by omega) (by omega)]; exact h6
  · rw [j 17 (by omega)]; exact h7
  · rw [a2.2.2]; exact h8
theorem ko_undo {A : kp_A} {k : Nat} (hA : kp_Aok A k) : kp_op A k (f_X11_undo 0) (f_X12_undo 77) := by
  have h6 := hA.1.1.1
  refine ⟨if ka_n A = 0 then 0 else 1, (ka_T A, if ka_n A = 0 then ka_S A else ka_H A (ka_n A - 1), (ka_n A - 1, ka_H A), A.2.2.2), ⟨hA.1, ?_, fun i hi => (hA.2.2.1 i (by have : i < ka_n A - 1 := hi; omega)).mo, hA.mo.2.2.2⟩, fun σ h => ?_, fun σ h => ?_⟩
  · show kp_Gok _ _ (if ka_n A = 0 then _ else _)
    by_cases b : ka_n A = 0
    · rw [if_pos b]; exact hA.mo.2.1
    · rw [if_neg b]; exact (hA.2.2.1 _ (by omega)).mo
  · obtain ⟨σ', a1, a2, a3, a4, a5⟩ := kp_takeBack h.2.1 h6 (fun i hi => (hA.2.2.1 i hi).1) h.2.2.1
    refine ⟨σ', ?_, ?_⟩
    · unfold f_X11_undo
      rw [kr0_5, kr0_4, a1, Option.bind_some]
      by_cases b : ka_n A = 0
      · rw [if_pos b]; rfl
      · rw [if_neg b]; rfl
    · exact kC_did2 h (a2.mono (fun r e => by unfold kp_yC; omega)) a3 a4 a5
  · obtain ⟨σ', a1, a2, a3, a4, a5⟩ := kp_undoM h.2.2.1
    refine ⟨σ', a1, kM_did2 h a2 a3 ?_⟩
    by_cases b : ka_n A = 0
    · rw [if_pos b, a4 b]; exact h.2.1
    · rw [if_neg b]; exact a5 _ (by omega)
/-! hold, restore -/
theorem kC_slot {s : Nat} (hs : s < 3) (σ : kf_St) : f_X3_hasSlot (nI s) σ = some (1, σ) := by
  unfold f_X3_hasSlot
  rw [if_neg (nI_pos (by omega)), if_neg (show ¬ (3 : Int32) ≤ nI s from nI_ge (a := s) (b := 3) hs (by decide))]
theorem kC_slotF {x : Int32} (hx : ¬ kp_is x 3 = true) (σ : kf_St) : f_X3_hasSlot x σ = some (0, σ) := by
  unfold f_X3_hasSlot
  rcases kp_out (n := 2) (by decide) hx with h1 | ⟨h1, h2⟩
  · rw [if_pos h1]
  · rw [if_neg h1, if_pos]
    have a := kp_ltI.mp h2
    have e2 : (nI 2).toInt = 2 := by decide
    have e3 : (3 : Int32).toInt = 3 := by decide
    exact kp_leI.mpr (by omega)
theorem ko_hold {A : kp_A} {k : Nat} (hA : kp_Aok A k) (x : Int32) : kp_op A k (f_X11_hold 0 x) (f_X12_hold 77 x) := by
  have h6 := hA.1.1.1
  by_cases hx : kp_is x 3 = true
  · obtain ⟨s, hs, rfl⟩ := kp_is_t (by decide) hx
    refine ⟨1, (ka_T A, ka_S A, (ka_n A, ka_H A), kp_sl (ka_Q A) s (ka_S A), A.2.2.2.2), ⟨hA.1, hA.mo.2.1, hA.mo.2.2.1, fun i Z e => ?_, hA.mo.2.2.2.2⟩, fun σ h => ?_, fun σ h => ?_⟩
    · have e' : (if i = s then some (ka_S A) else ka_Q A i) = some Z := e
      by_cases b : i = s
      · rw [if_pos b] at e'; cases e'; exact hA.mo.2.1
      · rw [if_neg b] at e'; exact hA.mo.2.2.2.1 i Z e'
    · obtain ⟨σ', a1, a2, a3, a4, a5⟩ := kp_putInSlot h.2.1 h6 hA.2.1.1 hs h.2.2.2.1
      refine ⟨σ', ?_, a2.frC (fun r e => by omega), ?_⟩
      · unfold f_X11_hold
        simp (disch := omega) only [↓reduceIte, kz_lt, Option.bind_some, kz_ix, kz_leT, kz_leF, kz_ltT, kz_ltF, kz_lt0, kz_0le, kz_0ltT, kz_le0F, kz_eq0F, kz_10, kz_00, kz_11, kz_01, nI_clamp, nI_1, nI_add, pk_mul, kc0, kc1, kc2, kc3, kc4, kc5, kc6, kc7, kc8, kc9, kc10, kx0, kx1, kx2, kx3, kx4, kx5, kx6, kx7, kx8, kr0_0, kr0_1, kr0_2, kr0_3, kr0_4, kr0_5, kr0_6, kr0_7, kr0_8, kr0_9, kr1_1, kr1_2, kr1_3, kr1_4, kr1_5, kr7_6, kr7_7, kr7_8, kr7_9, kr7_10, kr7_11, kr7_12, kr7_13, kr7_14, kr7_15, kr7_16, kr16_1, kr16_2, kr19_1, kr19_2, kr22_1, kr22_2, kr25_6, kr25_7, kr25_8, kr25_9, kr25_10, kr25_11, kr25_12, kr25_13, kr25_14, kr25_15, kr25_16, kr34_1, kr34_2, kr37_1, kr37_2, kr40_1, kr40_2, kr43_2, kr43_3, kr44_0, kr44_1, kr44_4, kr46_0, kr48_0, kr50_0, kr52_0, kr54_0, kr56_0, kr60_3, kr60_4, kr63_0, kr63_1, kr63_2, kr66_0, kr66_1, kr66_2, kr66_3, kr66_4, kr67_0, kr70_0, kr70_1, kr70_2, kr72_1, kr72_2, kr72_3, kr72_4, kr72_5, kr72_6, kr72_7, kl2, kl3, kl4, kl5, kl6, kl8, kl9, kl10, kl11, kl12, kl13, kl14, kl15, kl17, kl18, kl20, kl21, kl23, kl24, kl26, kl27, kl28, kl29, kl30, kl31, kl32, kl33, kl35, kl36, kl38, kl39, kl41, kl42, kl45, kl47, kl49, kl51, kl53, kl55, kl57, kl58, kl59, kl61, kl62, kl64, kl65, kl68, kl69, kl71, kl73, kl74, kl75, kl76, kC_slot hs, a1]
      · obtain ⟨h1, h2, h3, h4, h5, h6', h7, h8⟩ := h
        have e : ∀ r, ¬ (r = 60 ∨ r = 62) → σ'.1 r = σ.1 r := a2.1
        refine ⟨h1.ch (fun r a b d f => e r (by omega)), h2.ch h6 (fun r a => e r (by omega)), ?_, a5, ?_, ?_, ?_, ?_⟩
        · obtain ⟨q1, q2, x, q3, q4, q5⟩ := h3
          exact ⟨q1, by rw [a3]; exact q2, x, q3, by rw [a4]; exact q4, by rw [e 61 (by omega)]; exact q5⟩
        · rw [e 72 (by omega), e 73 (by omega), e 74 (by omega), e 75 (by omega)]; exact h5
        · rw [e 1 (by omega), e 2 (by omega)]; exact h6'
        · rw [e 43 (by omega)]; exact h7
        · rw [a2.2]; exact h8
    · obtain ⟨σ', a1, a2, a3⟩ := kp_holdM h.2.2.2.1 h.2.1 hs
      refine ⟨σ', a1, a2.frM (fun r e => by omega), ?_⟩
      obtain ⟨⟨lv, h1⟩, h2, h3, h4, h5, h6', h7, h8⟩ := h
      have e : ∀ r, ¬ (r = 120 ∨ r = 121) → r ≠ 77 → σ'.1 r = σ.1 r := a2.1
      have j : ∀ r, σ'.1 77 r = σ.1 77 r := fun r => a2.2.1 r (fun e => e)
      refine ⟨⟨lv, h1.ch (fun r a b => e r (by omega) (by omega)) (j 18)⟩, by rw [e 111 (by omega) (by omega)]; exact h2, h3.ch (j 56) (e 114 (by omega) (by omega)), a3, ?_, ?_, ?_, ?_⟩
      · rw [j 60, e 117 (by omega) (by omega), e 118 (by omega) (by omega), e 119 (by omega) (by omega)]; exact h5
      · rw [j 2, e 78 (by omega) (by omega)]; exact h6'
      · rw [j 17]; exact h7
      · rw [a2.2.2]; exact h8
  · refine kp_qq.op hA (kp_qq.st 0 (fun σ h => ?_) (fun σ h => ?_))
    · unfold f_X11_hold
      rw [kC_slotF hx, Option.bind_some]
      exact if_pos rfl
    · unfold f_X12_hold
      rw [show f_X12_in x 0 2 σ = some (0, σ) from kM_inF (m := 2) (by decide) hx, Option.bind_some]
      exact if_pos rfl
theorem ko_restore {A : kp_A} {k : Nat} (hA : kp_Aok A k) (x : Int32) : kp_op A k (f_X11_restore 0 x) (f_X12_restore 77 x) := by
  have h6 := hA.1.1.1
  by_cases hx : kp_is x 3 = true
  · obtain ⟨s, hs, rfl⟩ := kp_is_t (by decide) hx
    cases hQ : ka_Q A s with
    | none =>
      refine kp_qq.op hA (kp_qq.st 0 (fun σ h => ?_) (fun σ h => ?_))
      · obtain ⟨σ', a1, a2, a3, a4, a5, a6⟩ := kp_takeSlot h.2.1 h6 (fun i S e => (hA.2.2.2.1 i S e).1) hs h.2.2.2.1
        rw [hQ, a5 hQ] at a1
        unfold f_X11_restore
        simp (disch := omega) only [↓reduceIte, kz_lt, Option.bind_some, kz_ix, kz_leT, kz_leF, kz_ltT, kz_ltF, kz_lt0, kz_0le, kz_0ltT, kz_le0F, kz_eq0F, kz_10, kz_00, kz_11, kz_01, nI_clamp, nI_1, nI_add, pk_mul, kc0, kc1, kc2, kc3, kc4, kc5, kc6, kc7, kc8, kc9, kc10, kx0, kx1, kx2, kx3, kx4, kx5, kx6, kx7, kx8, kr0_0, kr0_1, kr0_2, kr0_3, kr0_4, kr0_5, kr0_6, kr0_7, kr0_8, kr0_9, kr1_1, kr1_2, kr1_3, kr1_4, kr1_5, kr7_6, kr7_7, kr7_8, kr7_9, kr7_10, kr7_11, kr7_12, kr7_13, kr7_14, kr7_15, kr7_16, kr16_1, kr16_2, kr19_1, kr19_2, kr22_1, kr22_2, kr25_6, kr25_7, kr25_8, kr25_9, kr25_10, kr25_11, kr25_12, kr25_13, kr25_14, kr25_15, kr25_16, kr34_1, kr34_2, kr37_1, kr37_2, kr40_1, kr40_2, kr43_2, kr43_3, kr44_0, kr44_1, kr44_4, kr46_0, kr48_0, kr50_0, kr52_0, kr54_0, kr56_0, kr60_3, kr60_4, kr63_0, kr63_1, kr63_2, kr66_0, kr66_1, kr66_2, kr66_3, kr66_4, kr67_0, kr70_0, kr70_1, kr70_2, kr72_1, kr72_2, kr72_3, kr72_4, kr72_5, kr72_6, kr72_7, kl2, kl3, kl4, kl5, kl6, kl8, kl9, kl10, kl11, kl12, kl13, kl14, kl15, kl17, kl18, kl20, kl21, kl23, kl24, kl26, kl27, kl28, kl29, kl30, kl31, kl32, kl33, kl35, kl36, kl38, kl39, kl41, kl42, kl45, kl47, kl49, kl51, kl53, kl55, kl57, kl58, kl59, kl61, kl62, kl64, kl65, kl68, kl69, kl71, kl73, kl74, kl75, kl76, kC_slot hs, a1]
        rfl
      · obtain ⟨σ', a1, a2, a3, a4⟩ := kp_restoreM h.2.2.2.1 hs
        rw [hQ, a3 hQ] at a1
        exact a1
    | some Z =>
      refine ⟨1, (ka_T A, Z, (0, ka_H A), A.2.2.2), ⟨hA.1, hA.mo.2.2.2.1 s Z hQ, fun i hi => absurd hi (Nat.not_lt_zero i), hA.mo.2.2.2⟩, fun σ h => ?_, fun σ h => ?_⟩
      · obtain ⟨σ', a1, a2, a3, a4, a5, a6⟩ := kp_takeSlot h.2.1 h6 (fun i S e => (hA.2.2.2.1 i S e).1) hs h.2.2.2.1
        rw [hQ] at a1
        obtain ⟨b1, b2⟩ := a6 Z hQ
        refine ⟨σ', ?_, kC_did2 h (a2.mono (fun r e => by unfold kp_yC; omega)) a3 ?_ b2⟩
        · unfold f_X11_restore
          simp (disch := omega) only [↓reduceIte, kz_lt, Option.bind_some, kz_ix, kz_leT, kz_leF, kz_ltT, kz_ltF, kz_lt0, kz_0le, kz_0ltT, kz_le0F, kz_eq0F, kz_10, kz_00, kz_11, kz_01, nI_clamp, nI_1, nI_add, pk_mul, kc0, kc1, kc2, kc3, kc4, kc5, kc6, kc7, kc8, kc9, kc10, kx0, kx1, kx2, kx3, kx4, kx5, kx6, kx7, kx8, kr0_0, kr0_1, kr0_2, kr0_3, kr0_4, kr0_5, kr0_6, kr0_7, kr0_8, kr0_9, kr1_1, kr1_2, kr1_3, kr1_4, kr1_5, kr7_6, kr7_7, kr7_8, kr7_9, kr7_10, kr7_11, kr7_12, kr7_13, kr7_14, kr7_15, kr7_16, kr16_1, kr16_2, kr19_1, kr19_2, kr22_1, kr22_2, kr25_6, kr25_7, kr25_8, kr25_9, kr25_10, kr25_11, kr25_12, kr25_13, kr25_14, kr25_15, kr25_16, kr34_1, kr34_2, kr37_1, kr37_2, kr40_1, kr40_2, kr43_2, kr43_3, kr44_0, kr44_1, kr44_4, kr46_0, kr48_0, kr50_0, kr52_0, kr54_0, kr56_0, kr60_3, kr60_4, kr63_0, kr63_1, kr63_2, kr66_0, kr66_1, kr66_2, kr66_3, kr66_4, kr67_0, kr70_0, kr70_1, kr70_2, kr72_1, kr72_2, kr72_3, kr72_4, kr72_5, kr72_6, kr72_7, kl2, kl3, kl4, kl5, kl6, kl8, kl9, kl10, kl11, kl12, kl13, kl14, kl15, kl17, kl18, kl20, kl21, kl23, kl24, kl26, kl27, kl28, kl29, kl30, kl31, kl32, kl33, kl35, kl36, kl38, kl39, kl41, kl42, kl45, kl47, kl49, kl51, kl53, kl55, kl57, kl58, kl59, kl61, kl62, kl64, kl65, kl68, kl69, kl71, kl73, kl74, kl75, kl76, kC_slot hs, a1]
          rfl
        · obtain ⟨q1, q2, x, q3, q4, q5⟩ := h.2.2.1
          exact ⟨by omega, b1, x, q3, by rw [a4]; exact q4, fun i hi => absurd hi (Nat.not_lt_zero i)⟩
      · obtain ⟨σ', a1, a2, a3, a4⟩ := kp_restoreM h.2.2.2.1 hs
        rw [hQ] at a1
        obtain ⟨b1, b2⟩ := a4 Z hQ
        exact ⟨σ', a1, kM_did2 h a2 ⟨by omega, b1, fun i hi => absurd hi (Nat.not_lt_zero i)⟩ b2⟩
  · refine kp_qq.op hA (kp_qq.st 0 (fun σ h => ?_) (fun σ h => ?_))
    · unfold f_X11_restore
      rw [kC_slotF hx, Option.bind_some]
      exact if_pos rfl
    · unfold f_X12_restore
      rw [show f_X12_in x 0 2 σ = some (0, σ) from kM_inF (m := 2) (by decide) hx, Option.bind_some]
      exact if_pos rfl
