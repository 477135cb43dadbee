/-! ===== pure: without, richest, year, calls, busy ===== -/
theorem kp_clr_all : ∀ r, r < 10 → ∀ K, K < 1024 → (nI K &&& (((1 : Int32) <<< (nI r &&& 31)) ^^^ (-1))) = nI (if K / 2 ^ r % 2 = 1 then K - 2 ^ r else K) := by decide +kernel
theorem kp_clr_bt : ∀ r, r < 10 → ∀ K, K < 1024 → ∀ i, i < 10 → kp_bt (if K / 2 ^ r % 2 = 1 then K - 2 ^ r else K) i = if i = r then 0 else kp_bt K i := by decide +kernel
def kp_clr (K r : Nat) : Nat := if K / 2 ^ r % 2 = 1 then K - 2 ^ r else K
theorem kp_fS.bit {ρ : Nat → Int32} {S : kp_S} {r K' : Nat} {v : Int32} (h : kp_fS ρ S) (hr : r < 10) (e : ∀ i, i < 10 → nI (kp_bt K' i) = if i = r then v else nI (kp_bt S.2.2.1 i)) : kp_fS (fun j => if j = 54 + r then v else ρ j) (S.1, S.2.1, K', S.2.2.2) := by
  obtain ⟨h1, h2, h3, h4⟩ := h
  refine ⟨fun d hd => ?_, fun c hc => ?_, fun i hi => ?_, ?_⟩
  · rw [← h1 d hd]
    refine kp_fD_eq (fun q hq => ?_) ?_ ?_ ?_ ?_ ?_ <;> exact if_neg (by omega)
  · show (if 64 + c = 54 + r then v else ρ (64 + c)) = _
    rw [if_neg (by omega)]; exact h2 c hc
  · show (if 54 + i = 54 + r then v else ρ (54 + i)) = nI (kp_bt K' i)
    rw [e i hi]
    by_cases b : i = r
    · rw [if_pos (by omega), if_pos b]
    · rw [if_neg (by omega), if_neg b]; exact h3 i hi
  · show (if 69 = 54 + r then v else ρ 69) = _
    rw [if_neg (by omega)]; exact h4
theorem kq_without {A : kp_A} {k : Nat} (hA : kp_Aok A k) (hk : k ≤ 520) (x y : Int32) : kp_qq A (f_X11_without 0 x y) (f_X12_without 77 x y) := by
  have h10 := hA.1.1.2.2
  have h6 := hA.1.1.1
  have hK := kp_kept hA
  have hdy := kp_day hA hk
  by_cases hx : kp_is x (kt_nr (ka_T A)) = true
  · obtain ⟨r, hr, rfl⟩ := kp_is_t (by omega) hx
    obtain ⟨-, hd, -⟩ := hA.1.2.2.2.1 r hr
    by_cases hy : kp_is y 61 = true ∧ y ≠ 0
    · obtain ⟨n, hn, rfl⟩ := kp_is_t (by decide) hy.1
      have n0 : 0 < n := Nat.pos_of_ne_zero (fun e => hy.2 (by rw [e]; rfl))
      have e1 : (nI n < 1) = False := eq_false (nI_nlt (a := n) (b := 1) (by omega) (by omega))
      have eK : (nI (ka_S A).2.2.1 &&& (((1 : Int32) <<< (nI r &&& 31)) ^^^ (-1))) = nI (kp_clr (ka_S A).2.2.1 r) := kp_clr_all r (by omega) _ hK
      have lK : kp_clr (ka_S A).2.2.1 r < 1024 := by
        unfold kp_clr
        by_cases b : (ka_S A).2.2.1 / 2 ^ r % 2 = 1
        · rw [if_pos b]; exact Nat.lt_of_le_of_lt (Nat.sub_le _ _) hK
        · rw [if_neg b]; exact hK
      refine ⟨kp_kn (ka_T A) (kp_dn (ka_T A) (kt_rd (ka_T A) r) (kp_clr (ka_S A).2.2.1 r) (-1) (ka_S A).2.2.2 n ((ka_S A).1 (kt_rd (ka_T A) r))).1, fun σ h => ?_, fun σ h => ?_⟩
      · obtain ⟨σ', e, c, e2⟩ := kC_after (K := kp_clr (ka_S A).2.2.1 r) (ws := -1) hA hk h hd (show n ≤ 60 by omega) (by omega)
        refine ⟨σ', ?_, c⟩
        unfold f_X11_without
        simp (disch := omega) only [↓reduceIte, kz_lt, Option.bind_some, kz_ix, kz_leT, kz_leF, kz_ltT, kz_ltF, kz_lt0, kz_0le, kz_0ltT, kz_le0F, kz_eq0F, kz_10, kz_00, kz_11, kz_01, nI_clamp, nI_1, nI_add, pk_mul, kc0, kc1, kc2, kc3, kc4, kc5, kc6, kc7, kc8, kc9, kc10, kx0, kx1, kx2, kx3, kx4, kx5, kx6, kx7, kx8, kr0_0, kr0_1, kr0_2, kr0_3, kr0_4, kr0_5, kr0_6, kr0_7, kr0_8, kr0_9, kr1_1, kr1_2, kr1_3, kr1_4, kr1_5, kr7_6, kr7_7, kr7_8, kr7_9, kr7_10, kr7_11, kr7_12, kr7_13, kr7_14, kr7_15, kr7_16, kr16_1, kr16_2, kr19_1, kr19_2, kr22_1, kr22_2, kr25_6, kr25_7, kr25_8, kr25_9, kr25_10, kr25_11, kr25_12, kr25_13, kr25_14, kr25_15, kr25_16, kr34_1, kr34_2, kr37_1, kr37_2, kr40_1, kr40_2, kr43_2, kr43_3, kr44_0, kr44_1, kr44_4, kr46_0, kr48_0, kr50_0, kr52_0, kr54_0, kr56_0, kr60_3, kr60_4, kr63_0, kr63_1, kr63_2, kr66_0, kr66_1, kr66_2, kr66_3, kr66_4, kr67_0, kr70_0, kr70_1, kr70_2, kr72_1, kr72_2, kr72_3, kr72_4, kr72_5, kr72_6, kr72_7, kl2, kl3, kl4, kl5, kl6, kl8, kl9, kl10, kl11, kl12, kl13, kl14, kl15, kl17, kl18, kl20, kl21, kl23, kl24, kl26, kl27, kl28, kl29, kl30, kl31, kl32, kl33, kl35, kl36, kl38, kl39, kl41, kl42, kl45, kl47, kl49, kl51, kl53, kl55, kl57, kl58, kl59, kl61, kl62, kl64, kl65, kl68, kl69, kl71, kl73, kl74, kl75, kl76, kC_rnd hA h hr, e1, kn60, h.2.1.2.2.1, eK, (h.1.2.2.2.2.1 r hr).2.1, e, kC_kt hA (h.ch hA c) e2 (kp_dn_ok hA.1 (hA.2.1.1 _ hd) hd n)]
      · obtain ⟨lv, τ, e, c', hm, hm', hs, hw⟩ := kM_cs hA h
        have hl := hm.1
        have hs2 : kp_fS ((kf_wi τ 112 (54 + r) 0).1 112) ((ka_S A).1, (ka_S A).2.1, kp_clr (ka_S A).2.2.1 r, (ka_S A).2.2.2) := by
          refine (kp_fS.bit (v := 0) (K' := kp_clr (ka_S A).2.2.1 r) hs (show r < 10 by omega) (fun i hi => ?_)).ch (fun j hj => ?_)
          · rw [show kp_bt (kp_clr (ka_S A).2.2.1 r) i = if i = r then 0 else kp_bt (ka_S A).2.2.1 i from kp_clr_bt r (by omega) _ hK i hi]
            by_cases b : i = r
            · rw [if_pos b, if_pos b]; rfl
            · rw [if_neg b, if_neg b]
          · by_cases b : j = 54 + r
            · rw [b, kp_wi_same, if_pos rfl]
            · rw [kp_wi_col b, if_neg b]
        have c2 : kp_chM kp_xM kp_jM σ (kf_wi τ 112 (54 + r) 0) := c'.wi (by unfold kp_xM; omega) (by decide)
        have hm2 := kM_wm hm c2
        have hw2 : kp_wsM (kf_wi τ 112 (54 + r) 0) (-1) := hw.ch (kp_wi_row (by decide) 53) (kp_wi_row (by decide) 54)
        obtain ⟨τ', a1, a2, a3⟩ := kM_goes hA.1 hm2 hs2 hA.2.1.1 hw2 hdy (show n ≤ 60 by omega)
        have c3 := c2.tr (kM_xg a2)
        have hm3 := kM_wm hm c3
        have a4 := kM_knF hA.1 hm3 a3 (show kt_rd (ka_T A) r < 6 by omega)
        rw [kp_dyN_d _ _ _ hd] at a4
        refine ⟨τ', ?_, c3⟩
        unfold f_X12_without
        simp (disch := omega) only [↓reduceIte, kz_lt, Option.bind_some, kz_ix, kz_leT, kz_leF, kz_ltT, kz_ltF, kz_lt0, kz_0le, kz_0ltT, kz_le0F, kz_eq0F, kz_10, kz_00, kz_11, kz_01, nI_clamp, nI_1, nI_add, pk_mul, kc0, kc1, kc2, kc3, kc4, kc5, kc6, kc7, kc8, kc9, kc10, kx0, kx1, kx2, kx3, kx4, kx5, kx6, kx7, kx8, kr77_1, kr77_3, kr77_5, kr77_6, kr77_7, kr77_8, kr77_9, kr77_21, kr77_22, kr77_23, kr77_24, kr77_25, kr77_26, kr77_27, kr77_28, kr77_29, kr77_30, kr77_31, kr77_32, kr77_33, kr77_34, kr77_35, kr77_36, kr77_38, kr77_39, kr77_40, kr77_41, kr77_42, kr77_44, kr77_45, kr77_46, kr77_48, kr77_49, kr77_51, kr77_52, kr77_55, kr77_57, kr77_58, kr77_59, kr77_61, kr77_62, kr77_63, kr77_64, kr77_65, kl78, kl79, kl80, kl81, kl82, kl83, kl84, kl85, kl86, kl87, kl88, kl89, kl90, kl91, kl92, kl93, kl94, kl95, kl96, kl97, kl98, kl99, kl100, kl101, kl102, kl103, kl104, kl105, kl106, kl107, kl108, kl109, kl110, kl111, kl112, kl113, kl114, kl115, kl116, kl117, kl118, kl119, kl120, kl121, kM_rnd hA.1 hm hr, kM_sm (show n ≤ 60 by omega) n0, e, kn54, kn10, a1, hm3.2.1, (hm3.2.2.2.2.2.2.1 r hr).2.1, a4]
    · refine kp_qq.st (-1) (fun σ h => ?_) (fun σ h => ?_)
      · unfold f_X11_without
        simp (disch := omega) only [↓reduceIte, kz_lt, Option.bind_some, kz_ix, kz_leT, kz_leF, kz_ltT, kz_ltF, kz_lt0, kz_0le, kz_0ltT, kz_le0F, kz_eq0F, kz_10, kz_00, kz_11, kz_01, nI_clamp, nI_1, nI_add, pk_mul, kc0, kc1, kc2, kc3, kc4, kc5, kc6, kc7, kc8, kc9, kc10, kx0, kx1, kx2, kx3, kx4, kx5, kx6, kx7, kx8, kr0_0, kr0_1, kr0_2, kr0_3, kr0_4, kr0_5, kr0_6, kr0_7, kr0_8, kr0_9, kr1_1, kr1_2, kr1_3, kr1_4, kr1_5, kr7_6, kr7_7, kr7_8, kr7_9, kr7_10, kr7_11, kr7_12, kr7_13, kr7_14, kr7_15, kr7_16, kr16_1, kr16_2, kr19_1, kr19_2, kr22_1, kr22_2, kr25_6, kr25_7, kr25_8, kr25_9, kr25_10, kr25_11, kr25_12, kr25_13, kr25_14, kr25_15, kr25_16, kr34_1, kr34_2, kr37_1, kr37_2, kr40_1, kr40_2, kr43_2, kr43_3, kr44_0, kr44_1, kr44_4, kr46_0, kr48_0, kr50_0, kr52_0, kr54_0, kr56_0, kr60_3, kr60_4, kr63_0, kr63_1, kr63_2, kr66_0, kr66_1, kr66_2, kr66_3, kr66_4, kr67_0, kr70_0, kr70_1, kr70_2, kr72_1, kr72_2, kr72_3, kr72_4, kr72_5, kr72_6, kr72_7, kl2, kl3, kl4, kl5, kl6, kl8, kl9, kl10, kl11, kl12, kl13, kl14, kl15, kl17, kl18, kl20, kl21, kl23, kl24, kl26, kl27, kl28, kl29, kl30, kl31, kl32, kl33, kl35, kl36, kl38, kl39, kl41, kl42, kl45, kl47, kl49, kl51, kl53, kl55, kl57, kl58, kl59, kl61, kl62, kl64, kl65, kl68, kl69, kl71, kl73, kl74, kl75, kl76, kC_rnd hA h hr]
        by_cases h1 : y < 1
        · rw [if_pos h1]
        · rw [if_neg h1, if_neg]
          intro h2
          have q1 := kp_leI.mp h2
          have q2 : ¬ y.toInt < (1 : Int32).toInt := fun e => h1 (kp_ltI.mpr e)
          have e1 : (1 : Int32).toInt = 1 := by decide
          have e2 : (60 : Int32).toInt = 60 := by decide
          exact hy ⟨kp_isI.mpr ⟨by omega, by omega⟩, fun e => by rw [e] at q2; exact q2 (by decide)⟩
      · obtain ⟨lv, hm⟩ := h.1
        unfold f_X12_without
        simp (disch := omega) only [↓reduceIte, kz_lt, Option.bind_some, kz_ix, kz_leT, kz_leF, kz_ltT, kz_ltF, kz_lt0, kz_0le, kz_0ltT, kz_le0F, kz_eq0F, kz_10, kz_00, kz_11, kz_01, nI_clamp, nI_1, nI_add, pk_mul, kc0, kc1, kc2, kc3, kc4, kc5, kc6, kc7, kc8, kc9, kc10, kx0, kx1, kx2, kx3, kx4, kx5, kx6, kx7, kx8, kr77_1, kr77_3, kr77_5, kr77_6, kr77_7, kr77_8, kr77_9, kr77_21, kr77_22, kr77_23, kr77_24, kr77_25, kr77_26, kr77_27, kr77_28, kr77_29, kr77_30, kr77_31, kr77_32, kr77_33, kr77_34, kr77_35, kr77_36, kr77_38, kr77_39, kr77_40, kr77_41, kr77_42, kr77_44, kr77_45, kr77_46, kr77_48, kr77_49, kr77_51, kr77_52, kr77_55, kr77_57, kr77_58, kr77_59, kr77_61, kr77_62, kr77_63, kr77_64, kr77_65, kl78, kl79, kl80, kl81, kl82, kl83, kl84, kl85, kl86, kl87, kl88, kl89, kl90, kl91, kl92, kl93, kl94, kl95, kl96, kl97, kl98, kl99, kl100, kl101, kl102, kl103, kl104, kl105, kl106, kl107, kl108, kl109, kl110, kl111, kl112, kl113, kl114, kl115, kl116, kl117, kl118, kl119, kl120, kl121, kM_rnd hA.1 hm hr, kM_smF hy]
  · refine kp_qq.st (-1) (fun σ h => ?_) (fun σ h => ?_)
    · unfold f_X11_without
      simp (disch := omega) only [↓reduceIte, kz_lt, Option.bind_some, kz_ix, kz_leT, kz_leF, kz_ltT, kz_ltF, kz_lt0, kz_0le, kz_0ltT, kz_le0F, kz_eq0F, kz_10, kz_00, kz_11, kz_01, nI_clamp, nI_1, nI_add, pk_mul, kc0, kc1, kc2, kc3, kc4, kc5, kc6, kc7, kc8, kc9, kc10, kx0, kx1, kx2, kx3, kx4, kx5, kx6, kx7, kx8, kr0_0, kr0_1, kr0_2, kr0_3, kr0_4, kr0_5, kr0_6, kr0_7, kr0_8, kr0_9, kr1_1, kr1_2, kr1_3, kr1_4, kr1_5, kr7_6, kr7_7, kr7_8, kr7_9, kr7_10, kr7_11, kr7_12, kr7_13, kr7_14, kr7_15, kr7_16, kr16_1, kr16_2, kr19_1, kr19_2, kr22_1, kr22_2, kr25_6, kr25_7, kr25_8, kr25_9, kr25_10, kr25_11, kr25_12, kr25_13, kr25_14, kr25_15, kr25_16, kr34_1, kr34_2, kr37_1, kr37_2, kr40_1, kr40_2, kr43_2, kr43_3, kr44_0, kr44_1, kr44_4, kr46_0, kr48_0, kr50_0, kr52_0, kr54_0, kr56_0, kr60_3, kr60_4, kr63_0, kr63_1, kr63_2, kr66_0, kr66_1, kr66_2, kr66_3, kr66_4, kr67_0, kr70_0, kr70_1, kr70_2, kr72_1, kr72_2, kr72_3, kr72_4, kr72_5, kr72_6, kr72_7, kl2, kl3, kl4, kl5, kl6, kl8, kl9, kl10, kl11, kl12, kl13, kl14, kl15, kl17, kl18, kl20, kl21, kl23, kl24, kl26, kl27, kl28, kl29, kl30, kl31, kl32, kl33, kl35, kl36, kl38, kl39, kl41, kl42, kl45, kl47, kl49, kl51, kl53, kl55, kl57, kl58, kl59, kl61, kl62, kl64, kl65, kl68, kl69, kl71, kl73, kl74, kl75, kl76, kC_rndF hA h hx]
    · obtain ⟨lv, hm⟩ := h.1
      unfold f_X12_without
      simp (disch := omega) only [↓reduceIte, kz_lt, Option.bind_some, kz_ix, kz_leT, kz_leF, kz_ltT, kz_ltF, kz_lt0, kz_0le, kz_0ltT, kz_le0F, kz_eq0F, kz_10, kz_00, kz_11, kz_01, nI_clamp, nI_1, nI_add, pk_mul, kc0, kc1, kc2, kc3, kc4, kc5, kc6, kc7, kc8, kc9, kc10, kx0, kx1, kx2, kx3, kx4, kx5, kx6, kx7, kx8, kr77_1, kr77_3, kr77_5, kr77_6, kr77_7, kr77_8, kr77_9, kr77_21, kr77_22, kr77_23, kr77_24, kr77_25, kr77_26, kr77_27, kr77_28, kr77_29, kr77_30, kr77_31, kr77_32, kr77_33, kr77_34, kr77_35, kr77_36, kr77_38, kr77_39, kr77_40, kr77_41, kr77_42, kr77_44, kr77_45, kr77_46, kr77_48, kr77_49, kr77_51, kr77_52, kr77_55, kr77_57, kr77_58, kr77_59, kr77_61, kr77_62, kr77_63, kr77_64, kr77_65, kl78, kl79, kl80, kl81, kl82, kl83, kl84, kl85, kl86, kl87, kl88, kl89, kl90, kl91, kl92, kl93, kl94, kl95, kl96, kl97, kl98, kl99, kl100, kl101, kl102, kl103, kl104, kl105, kl106, kl107, kl108, kl109, kl110, kl111, kl112, kl113, kl114, kl115, kl116, kl117, kl118, kl119, kl120, kl121, kM_rndF hA.1 hm hx]
/-! the most -/
def kp_mf (u : Nat → Int32) : Nat → Int32 × Int32
  | 0 => (-2, -2)
  | i + 1 => if u i ≤ (kp_mf u i).2 then kp_mf u i else (nI i, u i)
theorem kp_mf_s (u : Nat → Int32) (i : Nat) : kp_mf u (i + 1) = if u i ≤ (kp_mf u i).2 then kp_mf u i else (nI i, u i) := rfl
theorem kp_mf_inv (u : Nat → Int32) : ∀ n, (∀ i, i < n → 0 ≤ u i) → (n = 0 ∧ kp_mf u n = (-2, -2)) ∨ ∃ j, j < n ∧ (kp_mf u n).1 = nI j ∧ (kp_mf u n).2 = u j
  | 0, _ => Or.inl ⟨rfl, rfl⟩
  | n + 1, h => by
    refine Or.inr ?_
    rw [kp_mf_s]
    by_cases h1 : u n ≤ (kp_mf u n).2
    · rw [if_pos h1]
      rcases kp_mf_inv u n (fun i hi => h i (by omega)) with ⟨-, e⟩ | ⟨j, hj, e⟩
      · rw [e] at h1
        have q1 := kp_leI.mp h1
        have q2 := kp_leI.mp (h n (by omega))
        have q3 : (-2 : Int32).toInt = -2 := by decide
        have q4 : (0 : Int32).toInt = 0 := by decide
        dsimp only at q1
        omega
      · exact ⟨j, by omega, e⟩
    · rw [if_neg h1]; exact ⟨n, by omega, rfl, rfl⟩
theorem kp_mf_1 (u : Nat → Int32) (h : 0 ≤ u 0) : kp_mf u 1 = (nI 0, u 0) := by
  rw [kp_mf_s, if_neg]
  intro h1
  have q1 := kp_leI.mp h1
  have q2 := kp_leI.mp h
  have q3 : (-2 : Int32).toInt = -2 := by decide
  have q4 : (0 : Int32).toInt = 0 := by decide
  have q5 : (kp_mf u 0).2.toInt = -2 := q3
  omega
theorem kq_richest {A : kp_A} {k : Nat} (hA : kp_Aok A k) (hk : k ≤ 520) (x w : Int32) : kp_qq A (f_X11_richest 0 x w) (f_X12_richest 77 x w) := by
  have h6 := hA.1.1.1
  have hK := kp_kept hA
  by_cases hx : kp_is x 61 = true
  · obtain ⟨n, hn, rfl⟩ := kp_is_t (by decide) hx
    by_cases hw : kp_is w 2 = true
    · have e0 : ∀ σ : kf_St, f_X11_isPick w σ = some (1, σ) := fun σ => by rcases kp_pk hw with rfl | rfl <;> rfl
      have e1 : ∀ σ : kf_St, f_X12_in w 0 1 σ = some (1, σ) := fun σ => by rcases kp_pk hw with rfl | rfl <;> rfl
      refine ⟨kp_p2 w (kp_mf (fun d => (kp_dn (ka_T A) d (ka_S A).2.2.1 (-1) (ka_S A).2.2.2 n ((ka_S A).1 d)).2.2.2.2.1) (kt_nd (ka_T A))), ?_⟩
      generalize hg : (fun d => (kp_dn (ka_T A) d (ka_S A).2.2.1 (-1) (ka_S A).2.2.2 n ((ka_S A).1 d)).2.2.2.2.1) = u
      have hu : ∀ d, u d = (kp_dn (ka_T A) d (ka_S A).2.2.1 (-1) (ka_S A).2.2.2 n ((ka_S A).1 d)).2.2.2.2.1 := fun d => by rw [← hg]
      have up : ∀ d, d < kt_nd (ka_T A) → 0 ≤ u d := fun d hd => by
        obtain ⟨m, hm, e⟩ := (kp_dn_ok (K := (ka_S A).2.2.1) (ws := -1) (dy := (ka_S A).2.2.2) hA.1 (hA.2.1.1 d hd) hd n).2.2.1
        rw [hu d, e]; exact nI_pos' (by omega)
      refine ⟨fun σ h => ?_, fun σ h => ?_⟩
      · unfold f_X11_richest
        simp (disch := omega) only [↓reduceIte, kz_lt, Option.bind_some, kz_ix, kz_leT, kz_leF, kz_ltT, kz_ltF, kz_lt0, kz_0le, kz_0ltT, kz_le0F, kz_eq0F, kz_10, kz_00, kz_11, kz_01, nI_clamp, nI_1, nI_add, pk_mul, kn3, kn4, kn5, kn6, kn7, kn8, kn9, kn10, kn16, kn20, kn24, kn30, kn32, kn36, kn40, kn41, kn42, kn48, kn54, kn60, kn61, kn64, kn69, kn70, kn99, kn100, kc0, kc1, kc2, kc3, kc4, kc5, kc6, kc7, kc8, kc9, kc10, kx0, kx1, kx2, kx3, kx4, kx5, kx6, kx7, kx8, kr0_0, kr0_1, kr0_2, kr0_3, kr0_4, kr0_5, kr0_6, kr0_7, kr0_8, kr0_9, kr1_1, kr1_2, kr1_3, kr1_4, kr1_5, kr7_6, kr7_7, kr7_8, kr7_9, kr7_10, kr7_11, kr7_12, kr7_13, kr7_14, kr7_15, kr7_16, kr16_1, kr16_2, kr19_1, kr19_2, kr22_1, kr22_2, kr25_6, kr25_7, kr25_8, kr25_9, kr25_10, kr25_11, kr25_12, kr25_13, kr25_14, kr25_15, kr25_16, kr34_1, kr34_2, kr37_1, kr37_2, kr40_1, kr40_2, kr43_2, kr43_3, kr44_0, kr44_1, kr44_4, kr46_0, kr48_0, kr50_0, kr52_0, kr54_0, kr56_0, kr60_3, kr60_4, kr63_0, kr63_1, kr63_2, kr66_0, kr66_1, kr66_2, kr66_3, kr66_4, kr67_0, kr70_0, kr70_1, kr70_2, kr72_1, kr72_2, kr72_3, kr72_4, kr72_5, kr72_6, kr72_7, kl2, kl3, kl4, kl5, kl6, kl8, kl9, kl10, kl11, kl12, kl13, kl14, kl15, kl17, kl18, kl20, kl21, kl23, kl24, kl26, kl27, kl28, kl29, kl30, kl31, kl32, kl33, kl35, kl36, kl38, kl39, kl41, kl42, kl45, kl47, kl49, kl51, kl53, kl55, kl57, kl58, kl59, kl61, kl62, kl64, kl65, kl68, kl69, kl71, kl73, kl74, kl75, kl76, e0]
        refine kp_run (n := kt_nd (ka_T A)) (fun i f => ∀ τ, kp_ch kp_xC σ τ → ∃ σ', f_X11_richest_29 f 0 (nI n) w (kp_mf u i).1 (kp_mf u i).2 (nI i) τ = some (kp_p2 w (kp_mf u (kt_nd (ka_T A))), σ') ∧ kp_ch kp_xC σ σ') (by omega) (fun f τ cc => ?_) (fun i hi f ih τ cc => ?_) σ kp_ch.rf
        · have h' := h.ch hA cc
          refine ⟨τ, ?_, cc⟩
          show f_X11_richest_29_s _ 0 (nI n) w _ _ (nI (kt_nd (ka_T A))) τ = _
          unfold f_X11_richest_29_s kp_p2
          simp (disch := omega) only [↓reduceIte, kz_lt, Option.bind_some, kz_ix, kz_leT, kz_leF, kz_ltT, kz_ltF, kz_lt0, kz_0le, kz_0ltT, kz_le0F, kz_eq0F, kz_10, kz_00, kz_11, kz_01, nI_clamp, nI_1, nI_add, pk_mul, kc0, kc1, kc2, kc3, kc4, kc5, kc6, kc7, kc8, kc9, kc10, kx0, kx1, kx2, kx3, kx4, kx5, kx6, kx7, kx8, kr0_0, kr0_1, kr0_2, kr0_3, kr0_4, kr0_5, kr0_6, kr0_7, kr0_8, kr0_9, kr1_1, kr1_2, kr1_3, kr1_4, kr1_5, kr7_6, kr7_7, kr7_8, kr7_9, kr7_10, kr7_11, kr7_12, kr7_13, kr7_14, kr7_15, kr7_16, kr16_1, kr16_2, kr19_1, kr19_2, kr22_1, kr22_2, kr25_6, kr25_7, kr25_8, kr25_9, kr25_10, kr25_11, kr25_12, kr25_13, kr25_14, kr25_15, kr25_16, kr34_1, kr34_2, kr37_1, kr37_2, kr40_1, kr40_2, kr43_2, kr43_3, kr44_0, kr44_1, kr44_4, kr46_0, kr48_0, kr50_0, kr52_0, kr54_0, kr56_0, kr60_3, kr60_4, kr63_0, kr63_1, kr63_2, kr66_0, kr66_1, kr66_2, kr66_3, kr66_4, kr67_0, kr70_0, kr70_1, kr70_2, kr72_1, kr72_2, kr72_3, kr72_4, kr72_5, kr72_6, kr72_7, kl2, kl3, kl4, kl5, kl6, kl8, kl9, kl10, kl11, kl12, kl13, kl14, kl15, kl17, kl18, kl20, kl21, kl23, kl24, kl26, kl27, kl28, kl29, kl30, kl31, kl32, kl33, kl35, kl36, kl38, kl39, kl41, kl42, kl45, kl47, kl49, kl51, kl53, kl55, kl57, kl58, kl59, kl61, kl62, kl64, kl65, kl68, kl69, kl71, kl73, kl74, kl75, kl76, h'.1.1.1]
          by_cases hw : w = 0
          · rw [if_pos hw, if_pos hw]
          · rw [if_neg hw, if_neg hw]
        · have h' := h.ch hA cc
          obtain ⟨σ', e, c, e2⟩ := kC_after (K := (ka_S A).2.2.1) (ws := -1) hA hk h' hi (show n ≤ 60 by omega) (by omega)
          have f4 := (kp_cD_f e2).2.2.2.2.1
          rw [← hu i] at f4
          have ih := ih σ' (cc.tr c)
          show ∃ σ', f_X11_richest_29_s _ 0 (nI n) w _ _ (nI i) τ = some (_, σ') ∧ _
          unfold f_X11_richest_29_s f_X11_richest_78
          simp (disch := omega) only [↓reduceIte, kz_lt, Option.bind_some, kz_ix, kz_leT, kz_leF, kz_ltT, kz_ltF, kz_lt0, kz_0le, kz_0ltT, kz_le0F, kz_eq0F, kz_10, kz_00, kz_11, kz_01, nI_clamp, nI_1, nI_add, pk_mul, kc0, kc1, kc2, kc3, kc4, kc5, kc6, kc7, kc8, kc9, kc10, kx0, kx1, kx2, kx3, kx4, kx5, kx6, kx7, kx8, kr0_0, kr0_1, kr0_2, kr0_3, kr0_4, kr0_5, kr0_6, kr0_7, kr0_8, kr0_9, kr1_1, kr1_2, kr1_3, kr1_4, kr1_5, kr7_6, kr7_7, kr7_8, kr7_9, kr7_10, kr7_11, kr7_12, kr7_13, kr7_14, kr7_15, kr7_16, kr16_1, kr16_2, kr19_1, kr19_2, kr22_1, kr22_2, kr25_6, kr25_7, kr25_8, kr25_9, kr25_10, kr25_11, kr25_12, kr25_13, kr25_14, kr25_15, kr25_16, kr34_1, kr34_2, kr37_1, kr37_2, kr40_1, kr40_2, kr43_2, kr43_3, kr44_0, kr44_1, kr44_4, kr46_0, kr48_0, kr50_0, kr52_0, kr54_0, kr56_0, kr60_3, kr60_4, kr63_0, kr63_1, kr63_2, kr66_0, kr66_1, kr66_2, kr66_3, kr66_4, kr67_0, kr70_0, kr70_1, kr70_2, kr72_1, kr72_2, kr72_3, kr72_4, kr72_5, kr72_6, kr72_7, kl2, kl3, kl4, kl5, kl6, kl8, kl9, kl10, kl11, kl12, kl13, kl14, kl15, kl17, kl18, kl20, kl21, kl23, kl24, kl26, kl27, kl28, kl29, kl30, kl31, kl32, kl33, kl35, kl36, kl38, kl39, kl41, kl42, kl45, kl47, kl49, kl51, kl53, kl55, kl57, kl58, kl59, kl61, kl62, kl64, kl65, kl68, kl69, kl71, kl73, kl74, kl75, kl76, h'.1.1.1, h'.2.1.2.2.1, e, f4]
          rw [kp_mf_s] at ih
          by_cases h1 : u i ≤ (kp_mf u i).2
          · rw [if_pos h1] at ih ⊢; exact ih
          · rw [if_neg h1] at ih ⊢; exact ih
      · obtain ⟨lv, τ, τ', a1, a2, c, hm, hm', hs⟩ := kM_cgs hA hk h (show n ≤ 60 by omega)
        have hl := hm.1
        have fd : ∀ d, d < kt_nd (ka_T A) → τ'.1 112 (42 + d) = u d := fun d hd => by
          rw [(kp_fD_f (hs.1 d (by omega))).2.2.2.2.1, kp_dyN_d _ _ _ hd, hu d]
        refine ⟨τ', ?_, c⟩
        unfold f_X12_richest
        simp (disch := omega) only [↓reduceIte, kz_lt, Option.bind_some, kz_ix, kz_leT, kz_leF, kz_ltT, kz_ltF, kz_lt0, kz_0le, kz_0ltT, kz_le0F, kz_eq0F, kz_10, kz_00, kz_11, kz_01, nI_clamp, nI_1, nI_add, pk_mul, kc0, kc1, kc2, kc3, kc4, kc5, kc6, kc7, kc8, kc9, kc10, kx0, kx1, kx2, kx3, kx4, kx5, kx6, kx7, kx8, kr77_1, kr77_3, kr77_5, kr77_6, kr77_7, kr77_8, kr77_9, kr77_21, kr77_22, kr77_23, kr77_24, kr77_25, kr77_26, kr77_27, kr77_28, kr77_29, kr77_30, kr77_31, kr77_32, kr77_33, kr77_34, kr77_35, kr77_36, kr77_38, kr77_39, kr77_40, kr77_41, kr77_42, kr77_44, kr77_45, kr77_46, kr77_48, kr77_49, kr77_51, kr77_52, kr77_55, kr77_57, kr77_58, kr77_59, kr77_61, kr77_62, kr77_63, kr77_64, kr77_65, kl78, kl79, kl80, kl81, kl82, kl83, kl84, kl85, kl86, kl87, kl88, kl89, kl90, kl91, kl92, kl93, kl94, kl95, kl96, kl97, kl98, kl99, kl100, kl101, kl102, kl103, kl104, kl105, kl106, kl107, kl108, kl109, kl110, kl111, kl112, kl113, kl114, kl115, kl116, kl117, kl118, kl119, kl120, kl121, kM_lg (show n ≤ 60 by omega), e1, a1, a2]
        refine kp_run (n := kt_nd (ka_T A)) (fun i f => f_X12_richest_33 f 77 w (kp_mf u i).1 (nI i) τ' = some (kp_p2 w (kp_mf u (kt_nd (ka_T A))), τ')) (by omega) (fun f => ?_) (fun i hi f ih => ?_)
        · show f_X12_richest_33_s _ 77 w _ (nI (kt_nd (ka_T A))) τ' = _
          unfold f_X12_richest_33_s kp_p2
          simp (disch := omega) only [↓reduceIte, kz_lt, Option.bind_some, kz_ix, kz_leT, kz_leF, kz_ltT, kz_ltF, kz_lt0, kz_0le, kz_0ltT, kz_le0F, kz_eq0F, kz_10, kz_00, kz_11, kz_01, nI_clamp, nI_1, nI_add, pk_mul, kc0, kc1, kc2, kc3, kc4, kc5, kc6, kc7, kc8, kc9, kc10, kx0, kx1, kx2, kx3, kx4, kx5, kx6, kx7, kx8, kr77_1, kr77_3, kr77_5, kr77_6, kr77_7, kr77_8, kr77_9, kr77_21, kr77_22, kr77_23, kr77_24, kr77_25, kr77_26, kr77_27, kr77_28, kr77_29, kr77_30, kr77_31, kr77_32, kr77_33, kr77_34, kr77_35, kr77_36, kr77_38, kr77_39, kr77_40, kr77_41, kr77_42, kr77_44, kr77_45, kr77_46, kr77_48, kr77_49, kr77_51, kr77_52, kr77_55, kr77_57, kr77_58, kr77_59, kr77_61, kr77_62, kr77_63, kr77_64, kr77_65, kl78, kl79, kl80, kl81, kl82, kl83, kl84, kl85, kl86, kl87, kl88, kl89, kl90, kl91, kl92, kl93, kl94, kl95, kl96, kl97, kl98, kl99, kl100, kl101, kl102, kl103, kl104, kl105, kl106, kl107, kl108, kl109, kl110, kl111, kl112, kl113, kl114, kl115, kl116, kl117, kl118, kl119, kl120, kl121, hm'.2.1, hm'.2.2.1.1]
          rcases kp_mf_inv u (kt_nd (ka_T A)) up with ⟨e0, e⟩ | ⟨j, hj, e1, e2⟩
          · rw [e, if_pos kp_m2]
            by_cases hw : w = 0
            · rw [if_pos hw]
            · rw [if_neg hw]
          · rw [e1, e2, if_neg (nI_pos (by omega))]
            by_cases hw : w = 0
            · rw [if_pos hw, if_pos hw]
            · rw [if_neg hw, if_neg hw]
              simp (disch := omega) only [↓reduceIte, kz_lt, Option.bind_some, kz_ix, kz_leT, kz_leF, kz_ltT, kz_ltF, kz_lt0, kz_0le, kz_0ltT, kz_le0F, kz_eq0F, kz_10, kz_00, kz_11, kz_01, nI_clamp, nI_1, nI_add, pk_mul, kc0, kc1, kc2, kc3, kc4, kc5, kc6, kc7, kc8, kc9, kc10, kx0, kx1, kx2, kx3, kx4, kx5, kx6, kx7, kx8, kr77_1, kr77_3, kr77_5, kr77_6, kr77_7, kr77_8, kr77_9, kr77_21, kr77_22, kr77_23, kr77_24, kr77_25, kr77_26, kr77_27, kr77_28, kr77_29, kr77_30, kr77_31, kr77_32, kr77_33, kr77_34, kr77_35, kr77_36, kr77_38, kr77_39, kr77_40, kr77_41, kr77_42, kr77_44, kr77_45, kr77_46, kr77_48, kr77_49, kr77_51, kr77_52, kr77_55, kr77_57, kr77_58, kr77_59, kr77_61, kr77_62, kr77_63, kr77_64, kr77_65, kl78, kl79, kl80, kl81, kl82, kl83, kl84, kl85, kl86, kl87, kl88, kl89, kl90, kl91, kl92, kl93, kl94, kl95, kl96, kl97, kl98, kl99, kl100, kl101, kl102, kl103, kl104, kl105, kl106, kl107, kl108, kl109, kl110, kl111, kl112, kl113, kl114, kl115, kl116, kl117, kl118, kl119, kl120, kl121, kn42, fd j hj]
        · show f_X12_richest_33_s _ 77 w _ (nI i) τ' = _
          unfold f_X12_richest_33_s f_X12_richest_73 f_X12_richest_76
          rcases kp_mf_inv u i (fun j hj => up j (by omega)) with ⟨e0, e⟩ | ⟨j, hj, e1, e2⟩
          · subst e0
            rw [kp_mf_1 u (up 0 hi)] at ih
            simp +decide (disch := omega) only [↓reduceIte, kz_lt, Option.bind_some, kz_ix, kz_leT, kz_leF, kz_ltT, kz_ltF, kz_lt0, kz_0le, kz_0ltT, kz_le0F, kz_eq0F, kz_10, kz_00, kz_11, kz_01, nI_clamp, nI_1, nI_add, pk_mul, kc0, kc1, kc2, kc3, kc4, kc5, kc6, kc7, kc8, kc9, kc10, kx0, kx1, kx2, kx3, kx4, kx5, kx6, kx7, kx8, kr77_1, kr77_3, kr77_5, kr77_6, kr77_7, kr77_8, kr77_9, kr77_21, kr77_22, kr77_23, kr77_24, kr77_25, kr77_26, kr77_27, kr77_28, kr77_29, kr77_30, kr77_31, kr77_32, kr77_33, kr77_34, kr77_35, kr77_36, kr77_38, kr77_39, kr77_40, kr77_41, kr77_42, kr77_44, kr77_45, kr77_46, kr77_48, kr77_49, kr77_51, kr77_52, kr77_55, kr77_57, kr77_58, kr77_59, kr77_61, kr77_62, kr77_63, kr77_64, kr77_65, kl78, kl79, kl80, kl81, kl82, kl83, kl84, kl85, kl86, kl87, kl88, kl89, kl90, kl91, kl92, kl93, kl94, kl95, kl96, kl97, kl98, kl99, kl100, kl101, kl102, kl103, kl104, kl105, kl106, kl107, kl108, kl109, kl110, kl111, kl112, kl113, kl114, kl115, kl116, kl117, kl118, kl119, kl120, kl121, hm'.2.1, hm'.2.2.1.1, e]
            exact ih
          · rw [kp_mf_s, e2] at ih
            simp (disch := omega) only [↓reduceIte, kz_lt, Option.bind_some, kz_ix, kz_leT, kz_leF, kz_ltT, kz_ltF, kz_lt0, kz_0le, kz_0ltT, kz_le0F, kz_eq0F, kz_10, kz_00, kz_11, kz_01, nI_clamp, nI_1, nI_add, pk_mul, kc0, kc1, kc2, kc3, kc4, kc5, kc6, kc7, kc8, kc9, kc10, kx0, kx1, kx2, kx3, kx4, kx5, kx6, kx7, kx8, kr77_1, kr77_3, kr77_5, kr77_6, kr77_7, kr77_8, kr77_9, kr77_21, kr77_22, kr77_23, kr77_24, kr77_25, kr77_26, kr77_27, kr77_28, kr77_29, kr77_30, kr77_31, kr77_32, kr77_33, kr77_34, kr77_35, kr77_36, kr77_38, kr77_39, kr77_40, kr77_41, kr77_42, kr77_44, kr77_45, kr77_46, kr77_48, kr77_49, kr77_51, kr77_52, kr77_55, kr77_57, kr77_58, kr77_59, kr77_61, kr77_62, kr77_63, kr77_64, kr77_65, kl78, kl79, kl80, kl81, kl82, kl83, kl84, kl85, kl86, kl87, kl88, kl89, kl90, kl91, kl92, kl93, kl94, kl95, kl96, kl97, kl98, kl99, kl100, kl101, kl102, kl103, kl104, kl105, kl106, kl107, kl108, kl109, kl110, kl111, kl112, kl113, kl114, kl115, kl116, kl117, kl118, kl119, kl120, kl121, hm'.2.1, hm'.2.2.1.1, e1, kn42, fd i hi, fd j (show j < kt_nd (ka_T A) by omega)]
            by_cases h1 : u i ≤ u j
            · rw [if_pos h1] at ih ⊢; rw [e1] at ih; exact ih
            · rw [if_neg h1] at ih ⊢; exact ih
    · refine kp_qq.st (-1) (fun σ h => ?_) (fun σ h => ?_)
      · unfold f_X11_richest
        simp (disch := omega) only [↓reduceIte, kz_lt, Option.bind_some, kz_ix, kz_leT, kz_leF, kz_ltT, kz_ltF, kz_lt0, kz_0le, kz_0ltT, kz_le0F, kz_eq0F, kz_10, kz_00, kz_11, kz_01, nI_clamp, nI_1, nI_add, pk_mul, kn3, kn4, kn5, kn6, kn7, kn8, kn9, kn10, kn16, kn20, kn24, kn30, kn32, kn36, kn40, kn41, kn42, kn48, kn54, kn60, kn61, kn64, kn69, kn70, kn99, kn100, kc0, kc1, kc2, kc3, kc4, kc5, kc6, kc7, kc8, kc9, kc10, kx0, kx1, kx2, kx3, kx4, kx5, kx6, kx7, kx8, kr0_0, kr0_1, kr0_2, kr0_3, kr0_4, kr0_5, kr0_6, kr0_7, kr0_8, kr0_9, kr1_1, kr1_2, kr1_3, kr1_4, kr1_5, kr7_6, kr7_7, kr7_8, kr7_9, kr7_10, kr7_11, kr7_12, kr7_13, kr7_14, kr7_15, kr7_16, kr16_1, kr16_2, kr19_1, kr19_2, kr22_1, kr22_2, kr25_6, kr25_7, kr25_8, kr25_9, kr25_10, kr25_11, kr25_12, kr25_13, kr25_14, kr25_15, kr25_16, kr34_1, kr34_2, kr37_1, kr37_2, kr40_1, kr40_2, kr43_2, kr43_3, kr44_0, kr44_1, kr44_4, kr46_0, kr48_0, kr50_0, kr52_0, kr54_0, kr56_0, kr60_3, kr60_4, kr63_0, kr63_1, kr63_2, kr66_0, kr66_1, kr66_2, kr66_3, kr66_4, kr67_0, kr70_0, kr70_1, kr70_2, kr72_1, kr72_2, kr72_3, kr72_4, kr72_5, kr72_6, kr72_7, kl2, kl3, kl4, kl5, kl6, kl8, kl9, kl10, kl11, kl12, kl13, kl14, kl15, kl17, kl18, kl20, kl21, kl23, kl24, kl26, kl27, kl28, kl29, kl30, kl31, kl32, kl33, kl35, kl36, kl38, kl39, kl41, kl42, kl45, kl47, kl49, kl51, kl53, kl55, kl57, kl58, kl59, kl61, kl62, kl64, kl65, kl68, kl69, kl71, kl73, kl74, kl75, kl76, kC_pkF _ hw]
      · unfold f_X12_richest
        simp (disch := omega) only [↓reduceIte, kz_lt, Option.bind_some, kz_ix, kz_leT, kz_leF, kz_ltT, kz_ltF, kz_lt0, kz_0le, kz_0ltT, kz_le0F, kz_eq0F, kz_10, kz_00, kz_11, kz_01, nI_clamp, nI_1, nI_add, pk_mul, kc0, kc1, kc2, kc3, kc4, kc5, kc6, kc7, kc8, kc9, kc10, kx0, kx1, kx2, kx3, kx4, kx5, kx6, kx7, kx8, kr77_1, kr77_3, kr77_5, kr77_6, kr77_7, kr77_8, kr77_9, kr77_21, kr77_22, kr77_23, kr77_24, kr77_25, kr77_26, kr77_27, kr77_28, kr77_29, kr77_30, kr77_31, kr77_32, kr77_33, kr77_34, kr77_35, kr77_36, kr77_38, kr77_39, kr77_40, kr77_41, kr77_42, kr77_44, kr77_45, kr77_46, kr77_48, kr77_49, kr77_51, kr77_52, kr77_55, kr77_57, kr77_58, kr77_59, kr77_61, kr77_62, kr77_63, kr77_64, kr77_65, kl78, kl79, kl80, kl81, kl82, kl83, kl84, kl85, kl86, kl87, kl88, kl89, kl90, kl91, kl92, kl93, kl94, kl95, kl96, kl97, kl98, kl99, kl100, kl101, kl102, kl103, kl104, kl105, kl106, kl107, kl108, kl109, kl110, kl111, kl112, kl113, kl114, kl115, kl116, kl117, kl118, kl119, kl120, kl121, kM_lg (show n ≤ 60 by omega), kM_pkF _ hw]
  · refine kp_qq.st (-1) (fun σ h => ?_) (fun σ h => ?_)
    · unfold f_X11_richest
      simp (disch := omega) only [↓reduceIte, kz_lt, Option.bind_some, kz_ix, kz_leT, kz_leF, kz_ltT, kz_ltF, kz_lt0, kz_0le, kz_0ltT, kz_le0F, kz_eq0F, kz_10, kz_00, kz_11, kz_01, nI_clamp, nI_1, nI_add, pk_mul, kn3, kn4, kn5, kn6, kn7, kn8, kn9, kn10, kn16, kn20, kn24, kn30, kn32, kn36, kn40, kn41, kn42, kn48, kn54, kn60, kn61, kn64, kn69, kn70, kn99, kn100, kc0, kc1, kc2, kc3, kc4, kc5, kc6, kc7, kc8, kc9, kc10, kx0, kx1, kx2, kx3, kx4, kx5, kx6, kx7, kx8, kr0_0, kr0_1, kr0_2, kr0_3, kr0_4, kr0_5, kr0_6, kr0_7, kr0_8, kr0_9, kr1_1, kr1_2, kr1_3, kr1_4, kr1_5, kr7_6, kr7_7, kr7_8, kr7_9, kr7_10, kr7_11, kr7_12, kr7_13, kr7_14, kr7_15, kr7_16, kr16_1, kr16_2, kr19_1, kr19_2, kr22_1, kr22_2, kr25_6, kr25_7, kr25_8, kr25_9, kr25_10, kr25_11, kr25_12, kr25_13, kr25_14, kr25_15, kr25_16, kr34_1, kr34_2, kr37_1, kr37_2, kr40_1, kr40_2, kr43_2, kr43_3, kr44_0, kr44_1, kr44_4, kr46_0, kr48_0, kr50_0, kr52_0, kr54_0, kr56_0, kr60_3, kr60_4, kr63_0, kr63_1, kr63_2, kr66_0, kr66_1, kr66_2, kr66_3, kr66_4, kr67_0, kr70_0, kr70_1, kr70_2, kr72_1, kr72_2, kr72_3, kr72_4, kr72_5, kr72_6, kr72_7, kl2, kl3, kl4, kl5, kl6, kl8, kl9, kl10, kl11, kl12, kl13, kl14, kl15, kl17, kl18, kl20, kl21, kl23, kl24, kl26, kl27, kl28, kl29, kl30, kl31, kl32, kl33, kl35, kl36, kl38, kl39, kl41, kl42, kl45, kl47, kl49, kl51, kl53, kl55, kl57, kl58, kl59, kl61, kl62, kl64, kl65, kl68, kl69, kl71, kl73, kl74, kl75, kl76]
      rcases kp_out (n := 60) (by decide) hx with h1 | ⟨h1, h2⟩
      · rw [if_pos h1]
      · rw [if_neg h1, if_pos h2]
    · unfold f_X12_richest
      simp (disch := omega) only [↓reduceIte, kz_lt, Option.bind_some, kz_ix, kz_leT, kz_leF, kz_ltT, kz_ltF, kz_lt0, kz_0le, kz_0ltT, kz_le0F, kz_eq0F, kz_10, kz_00, kz_11, kz_01, nI_clamp, nI_1, nI_add, pk_mul, kc0, kc1, kc2, kc3, kc4, kc5, kc6, kc7, kc8, kc9, kc10, kx0, kx1, kx2, kx3, kx4, kx5, kx6, kx7, kx8, kr77_1, kr77_3, kr77_5, kr77_6, kr77_7, kr77_8, kr77_9, kr77_21, kr77_22, kr77_23, kr77_24, kr77_25, kr77_26, kr77_27, kr77_28, kr77_29, kr77_30, kr77_31, kr77_32, kr77_33, kr77_34, kr77_35, kr77_36, kr77_38, kr77_39, kr77_40, kr77_41, kr77_42, kr77_44, kr77_45, kr77_46, kr77_48, kr77_49, kr77_51, kr77_52, kr77_55, kr77_57, kr77_58, kr77_59, kr77_61, kr77_62, kr77_63, kr77_64, kr77_65, kl78, kl79, kl80, kl81, kl82, kl83, kl84, kl85, kl86, kl87, kl88, kl89, kl90, kl91, kl92, kl93, kl94, kl95, kl96, kl97, kl98, kl99, kl100, kl101, kl102, kl103, kl104, kl105, kl106, kl107, kl108, kl109, kl110, kl111, kl112, kl113, kl114, kl115, kl116, kl117, kl118, kl119, kl120, kl121, kM_lgF hx]
/-! counting -/
def kp_ct (g : Nat → Bool) : Nat → Nat
  | 0 => 0
  | i + 1 => if g i then kp_ct g i + 1 else kp_ct g i
theorem kp_ct_s (g : Nat → Bool) (i : Nat) : kp_ct g (i + 1) = if g i then kp_ct g i + 1 else kp_ct g i := rfl
theorem kp_ct_le (g : Nat → Bool) : ∀ n, kp_ct g n ≤ n
  | 0 => Nat.le_refl _
  | n + 1 => by
    have := kp_ct_le g n
    rw [kp_ct_s]
    by_cases h : g n = true
    · rw [if_pos h]; omega
    · rw [if_neg h]; omega
def kp_du (A : kp_A) (r n : Nat) : Nat := kp_ct (fun i => kp_cm (ka_T A) (ka_S A).2.2.1 r ((ka_S A).2.2.2 + i)) n
theorem kC_due {A : kp_A} {k : Nat} (hA : kp_Aok A k) (hk : k ≤ 520) {σ : kf_St} (h : kp_Cr A σ) {r n : Nat} (hr : r < kt_nr (ka_T A)) (hn : n ≤ 60) : f_X11_liftsDue 0 (nI r) (nI n) σ = some (nI (kp_du A r n), σ) := by
  have hK := kp_kept hA
  have hdy := kp_day hA hk
  unfold f_X11_liftsDue
  refine kp_run (n := n) (fun i f => f_X11_liftsDue_5 f 0 (nI r) (nI n) (nI (kp_du A r i)) (nI i) σ = some (nI (kp_du A r n), σ)) (by omega) (fun f => ?_) (fun i hi f ih => ?_)
  · show f_X11_liftsDue_5_s _ 0 (nI r) (nI n) _ (nI n) σ = _
    unfold f_X11_liftsDue_5_s
    simp (disch := omega) only [↓reduceIte, kz_lt, Option.bind_some, kz_ix, kz_leT, kz_leF, kz_ltT, kz_ltF, kz_lt0, kz_0le, kz_0ltT, kz_le0F, kz_eq0F, kz_10, kz_00, kz_11, kz_01, nI_clamp, nI_1, nI_add, pk_mul, kc0, kc1, kc2, kc3, kc4, kc5, kc6, kc7, kc8, kc9, kc10, kx0, kx1, kx2, kx3, kx4, kx5, kx6, kx7, kx8, kr0_0, kr0_1, kr0_2, kr0_3, kr0_4, kr0_5, kr0_6, kr0_7, kr0_8, kr0_9, kr1_1, kr1_2, kr1_3, kr1_4, kr1_5, kr7_6, kr7_7, kr7_8, kr7_9, kr7_10, kr7_11, kr7_12, kr7_13, kr7_14, kr7_15, kr7_16, kr16_1, kr16_2, kr19_1, kr19_2, kr22_1, kr22_2, kr25_6, kr25_7, kr25_8, kr25_9, kr25_10, kr25_11, kr25_12, kr25_13, kr25_14, kr25_15, kr25_16, kr34_1, kr34_2, kr37_1, kr37_2, kr40_1, kr40_2, kr43_2, kr43_3, kr44_0, kr44_1, kr44_4, kr46_0, kr48_0, kr50_0, kr52_0, kr54_0, kr56_0, kr60_3, kr60_4, kr63_0, kr63_1, kr63_2, kr66_0, kr66_1, kr66_2, kr66_3, kr66_4, kr67_0, kr70_0, kr70_1, kr70_2, kr72_1, kr72_2, kr72_3, kr72_4, kr72_5, kr72_6, kr72_7, kl2, kl3, kl4, kl5, kl6, kl8, kl9, kl10, kl11, kl12, kl13, kl14, kl15, kl17, kl18, kl20, kl21, kl23, kl24, kl26, kl27, kl28, kl29, kl30, kl31, kl32, kl33, kl35, kl36, kl38, kl39, kl41, kl42, kl45, kl47, kl49, kl51, kl53, kl55, kl57, kl58, kl59, kl61, kl62, kl64, kl65, kl68, kl69, kl71, kl73, kl74, kl75, kl76]
  · show f_X11_liftsDue_5_s _ 0 (nI r) (nI n) _ (nI i) σ = _
    unfold f_X11_liftsDue_5_s f_X11_liftsDue_42
    have lt : (ka_S A).2.2.2 + i < 2 ^ 30 := by omega
    simp (disch := omega) only [↓reduceIte, kz_lt, Option.bind_some, kz_ix, kz_leT, kz_leF, kz_ltT, kz_ltF, kz_lt0, kz_0le, kz_0ltT, kz_le0F, kz_eq0F, kz_10, kz_00, kz_11, kz_01, nI_clamp, nI_1, nI_add, pk_mul, kc0, kc1, kc2, kc3, kc4, kc5, kc6, kc7, kc8, kc9, kc10, kx0, kx1, kx2, kx3, kx4, kx5, kx6, kx7, kx8, kr0_0, kr0_1, kr0_2, kr0_3, kr0_4, kr0_5, kr0_6, kr0_7, kr0_8, kr0_9, kr1_1, kr1_2, kr1_3, kr1_4, kr1_5, kr7_6, kr7_7, kr7_8, kr7_9, kr7_10, kr7_11, kr7_12, kr7_13, kr7_14, kr7_15, kr7_16, kr16_1, kr16_2, kr19_1, kr19_2, kr22_1, kr22_2, kr25_6, kr25_7, kr25_8, kr25_9, kr25_10, kr25_11, kr25_12, kr25_13, kr25_14, kr25_15, kr25_16, kr34_1, kr34_2, kr37_1, kr37_2, kr40_1, kr40_2, kr43_2, kr43_3, kr44_0, kr44_1, kr44_4, kr46_0, kr48_0, kr50_0, kr52_0, kr54_0, kr56_0, kr60_3, kr60_4, kr63_0, kr63_1, kr63_2, kr66_0, kr66_1, kr66_2, kr66_3, kr66_4, kr67_0, kr70_0, kr70_1, kr70_2, kr72_1, kr72_2, kr72_3, kr72_4, kr72_5, kr72_6, kr72_7, kl2, kl3, kl4, kl5, kl6, kl8, kl9, kl10, kl11, kl12, kl13, kl14, kl15, kl17, kl18, kl20, kl21, kl23, kl24, kl26, kl27, kl28, kl29, kl30, kl31, kl32, kl33, kl35, kl36, kl38, kl39, kl41, kl42, kl45, kl47, kl49, kl51, kl53, kl55, kl57, kl58, kl59, kl61, kl62, kl64, kl65, kl68, kl69, kl71, kl73, kl74, kl75, kl76, h.2.1.2.2.2, h.2.1.2.2.1, kp_comes hA.1 h.1 hr lt (show (ka_S A).2.2.1 < 2 ^ 31 by omega)]
    unfold kp_du at ih
    rw [kp_ct_s] at ih
    by_cases b : kp_cm (ka_T A) (ka_S A).2.2.1 r ((ka_S A).2.2.2 + i) = true
    · rw [if_pos b] at ih
      rw [if_pos b, if_neg (by decide)]; exact ih
    · rw [if_neg b] at ih
      rw [if_neg b, if_pos rfl]; exact ih
theorem kM_due {A : kp_A} {k lv : Nat} (hA : kp_Aok A k) (hk : k ≤ 520) {σ : kf_St} (h : kp_MT (ka_T A) lv σ) (hS : kp_fS (σ.1 111) (ka_S A)) {r n : Nat} (hr : r < kt_nr (ka_T A)) (hn : n ≤ 60) : f_X12_timesDue 77 (nI r) (nI n) σ = some (nI (kp_du A r n), σ) := by
  have h10 := hA.1.1.2.2
  have hdy := kp_day hA hk
  have k69 : (kf_ix 69 70 = true) = True := eq_true (by decide)
  unfold f_X12_timesDue
  refine kp_run (n := n) (fun i f => f_X12_timesDue_5 f 77 (nI r) (nI n) (nI (kp_du A r i)) (nI i) σ = some (nI (kp_du A r n), σ)) (by omega) (fun f => ?_) (fun i hi f ih => ?_)
  · show f_X12_timesDue_5_s _ 77 (nI r) (nI n) _ (nI n) σ = _
    unfold f_X12_timesDue_5_s
    simp (disch := omega) only [↓reduceIte, kz_lt, Option.bind_some, kz_ix, kz_leT, kz_leF, kz_ltT, kz_ltF, kz_lt0, kz_0le, kz_0ltT, kz_le0F, kz_eq0F, kz_10, kz_00, kz_11, kz_01, nI_clamp, nI_1, nI_add, pk_mul, kc0, kc1, kc2, kc3, kc4, kc5, kc6, kc7, kc8, kc9, kc10, kx0, kx1, kx2, kx3, kx4, kx5, kx6, kx7, kx8, kr77_1, kr77_3, kr77_5, kr77_6, kr77_7, kr77_8, kr77_9, kr77_21, kr77_22, kr77_23, kr77_24, kr77_25, kr77_26, kr77_27, kr77_28, kr77_29, kr77_30, kr77_31, kr77_32, kr77_33, kr77_34, kr77_35, kr77_36, kr77_38, kr77_39, kr77_40, kr77_41, kr77_42, kr77_44, kr77_45, kr77_46, kr77_48, kr77_49, kr77_51, kr77_52, kr77_55, kr77_57, kr77_58, kr77_59, kr77_61, kr77_62, kr77_63, kr77_64, kr77_65, kl78, kl79, kl80, kl81, kl82, kl83, kl84, kl85, kl86, kl87, kl88, kl89, kl90, kl91, kl92, kl93, kl94, kl95, kl96, kl97, kl98, kl99, kl100, kl101, kl102, kl103, kl104, kl105, kl106, kl107, kl108, kl109, kl110, kl111, kl112, kl113, kl114, kl115, kl116, kl117, kl118, kl119, kl120, kl121]
  · show f_X12_timesDue_5_s _ 77 (nI r) (nI n) _ (nI i) σ = _
    unfold f_X12_timesDue_5_s f_X12_timesDue_45
    have lt : (ka_S A).2.2.2 + i < 2 ^ 30 := by omega
    simp (disch := omega) only [↓reduceIte, kz_lt, Option.bind_some, kz_ix, kz_leT, kz_leF, kz_ltT, kz_ltF, kz_lt0, kz_0le, kz_0ltT, kz_le0F, kz_eq0F, kz_10, kz_00, kz_11, kz_01, nI_clamp, nI_1, nI_add, pk_mul, kc0, kc1, kc2, kc3, kc4, kc5, kc6, kc7, kc8, kc9, kc10, kx0, kx1, kx2, kx3, kx4, kx5, kx6, kx7, kx8, kr77_1, kr77_3, kr77_5, kr77_6, kr77_7, kr77_8, kr77_9, kr77_21, kr77_22, kr77_23, kr77_24, kr77_25, kr77_26, kr77_27, kr77_28, kr77_29, kr77_30, kr77_31, kr77_32, kr77_33, kr77_34, kr77_35, kr77_36, kr77_38, kr77_39, kr77_40, kr77_41, kr77_42, kr77_44, kr77_45, kr77_46, kr77_48, kr77_49, kr77_51, kr77_52, kr77_55, kr77_57, kr77_58, kr77_59, kr77_61, kr77_62, kr77_63, kr77_64, kr77_65, kl78, kl79, kl80, kl81, kl82, kl83, kl84, kl85, kl86, kl87, kl88, kl89, kl90, kl91, kl92, kl93, kl94, kl95, kl96, kl97, kl98, kl99, kl100, kl101, kl102, kl103, kl104, kl105, kl106, kl107, kl108, kl109, kl110, kl111, kl112, kl113, kl114, kl115, kl116, kl117, kl118, kl119, kl120, kl121, kn54, k69, kn69x, hS.2.2.2, hS.2.2.1 r (show r < 10 by omega), kp_isDueM hA.1 h hr lt]
    unfold kp_du at ih
    rw [kp_ct_s] at ih
    unfold kp_cm at ih
    by_cases b1 : kp_bt (ka_S A).2.2.1 r = 1
    · rw [b1, if_pos (show nI 1 = 1 from rfl)]
      by_cases b2 : kp_due (ka_T A) r ((ka_S A).2.2.2 + i) = true
      · rw [if_pos b2, if_neg (by decide)]
        rw [if_pos (by rw [b1, b2]; rfl)] at ih; exact ih
      · rw [if_neg b2, if_pos rfl]
        rw [if_neg (by rw [Bool.and_eq_true]; exact fun x => b2 x.2)] at ih; exact ih
    · rw [if_neg (show ¬ nI (kp_bt (ka_S A).2.2.1 r) = 1 from fun x => b1 ((nI_eq (b := 1) (by have : kp_bt (ka_S A).2.2.1 r < 2 := Nat.mod_lt _ (by decide); omega) (by decide)).mp x))]
      rw [if_neg (by rw [Bool.and_eq_true]; exact fun x => b1 (of_decide_eq_true x.1))] at ih; exact ih
def kp_sf (f : Nat → Bool) (v : Nat → Nat) : Nat → Nat
  | 0 => 0
  | r + 1 => if f r then kp_sf f v r + v r else kp_sf f v r
theorem kp_sf_s (f : Nat → Bool) (v : Nat → Nat) (r : Nat) : kp_sf f v (r + 1) = if f r then kp_sf f v r + v r else kp_sf f v r := rfl
theorem kp_some {y : Int32} (h : ¬ (kp_is y 61 = true ∧ y ≠ 0)) : y < 1 ∨ (¬ y < 1 ∧ ¬ y ≤ 60 ∧ 60 < y) := by
  by_cases h1 : y < 1
  · exact Or.inl h1
  · refine Or.inr ⟨h1, ?_⟩
    have q2 : ¬ y.toInt < (1 : Int32).toInt := fun e => h1 (kp_ltI.mpr e)
    have e1 : (1 : Int32).toInt = 1 := by decide
    have e2 : (60 : Int32).toInt = 60 := by decide
    have key : ¬ y ≤ 60 := fun h2 => by
      have q1 := kp_leI.mp h2
      exact h ⟨kp_isI.mpr ⟨by omega, by omega⟩, fun e => by rw [e] at q2; exact q2 (by decide)⟩
    exact ⟨key, Int32.not_le.mp key⟩
theorem kp_is61 {y : Int32} (h : kp_is y 61 = true ∧ y ≠ 0) : ∃ n, n ≤ 60 ∧ 0 < n ∧ y = nI n := by
  obtain ⟨n, hn, rfl⟩ := kp_is_t (by decide) h.1
  exact ⟨n, by omega, Nat.pos_of_ne_zero (fun e => h.2 (by rw [e]; rfl)), rfl⟩
theorem kz_lt1F {n : Nat} (h0 : 0 < n) (h : n < 2 ^ 31) : (nI n < 1) = False := eq_false (nI_nlt (a := n) (b := 1) (by omega) h)
theorem kq_calls {A : kp_A} {k : Nat} (hA : kp_Aok A k) (hk : k ≤ 520) (x y : Int32) : kp_qq A (f_X11_calls 0 x y) (f_X12_calls 77 x y) := by
  have h10 := hA.1.1.2.2
  have h6 := hA.1.1.1
  by_cases hx : kp_is x (kt_nd (ka_T A)) = true
  · obtain ⟨d, hd, rfl⟩ := kp_is_t (by omega) hx
    by_cases hy : kp_is y 61 = true ∧ y ≠ 0
    · obtain ⟨n, hn, n0, rfl⟩ := kp_is61 hy
      refine kp_qq.st (nI (kp_sf (fun r => decide (kt_rd (ka_T A) r = d)) (fun r => kp_du A r n) (kt_nr (ka_T A)))) (fun σ h => ?_) (fun σ h => ?_)
      · unfold f_X11_calls
        simp (disch := omega) only [↓reduceIte, kz_lt, Option.bind_some, kz_ix, kz_leT, kz_leF, kz_ltT, kz_ltF, kz_lt0, kz_0le, kz_0ltT, kz_le0F, kz_eq0F, kz_10, kz_00, kz_11, kz_01, nI_clamp, nI_1, nI_add, pk_mul, kn3, kn4, kn5, kn6, kn7, kn8, kn9, kn10, kn16, kn20, kn24, kn30, kn32, kn36, kn40, kn41, kn42, kn48, kn54, kn60, kn61, kn64, kn69, kn70, kn99, kn100, kc0, kc1, kc2, kc3, kc4, kc5, kc6, kc7, kc8, kc9, kc10, kx0, kx1, kx2, kx3, kx4, kx5, kx6, kx7, kx8, kr0_0, kr0_1, kr0_2, kr0_3, kr0_4, kr0_5, kr0_6, kr0_7, kr0_8, kr0_9, kr1_1, kr1_2, kr1_3, kr1_4, kr1_5, kr7_6, kr7_7, kr7_8, kr7_9, kr7_10, kr7_11, kr7_12, kr7_13, kr7_14, kr7_15, kr7_16, kr16_1, kr16_2, kr19_1, kr19_2, kr22_1, kr22_2, kr25_6, kr25_7, kr25_8, kr25_9, kr25_10, kr25_11, kr25_12, kr25_13, kr25_14, kr25_15, kr25_16, kr34_1, kr34_2, kr37_1, kr37_2, kr40_1, kr40_2, kr43_2, kr43_3, kr44_0, kr44_1, kr44_4, kr46_0, kr48_0, kr50_0, kr52_0, kr54_0, kr56_0, kr60_3, kr60_4, kr63_0, kr63_1, kr63_2, kr66_0, kr66_1, kr66_2, kr66_3, kr66_4, kr67_0, kr70_0, kr70_1, kr70_2, kr72_1, kr72_2, kr72_3, kr72_4, kr72_5, kr72_6, kr72_7, kl2, kl3, kl4, kl5, kl6, kl8, kl9, kl10, kl11, kl12, kl13, kl14, kl15, kl17, kl18, kl20, kl21, kl23, kl24, kl26, kl27, kl28, kl29, kl30, kl31, kl32, kl33, kl35, kl36, kl38, kl39, kl41, kl42, kl45, kl47, kl49, kl51, kl53, kl55, kl57, kl58, kl59, kl61, kl62, kl64, kl65, kl68, kl69, kl71, kl73, kl74, kl75, kl76, kC_door hA h hd, kz_lt1F]
        refine kp_run (n := kt_nr (ka_T A)) (fun i f => f_X11_calls_29 f 0 (nI d) (nI n) (nI (kp_sf (fun r => decide (kt_rd (ka_T A) r = d)) (fun r => kp_du A r n) i)) (nI i) σ = some (nI (kp_sf (fun r => decide (kt_rd (ka_T A) r = d)) (fun r => kp_du A r n) (kt_nr (ka_T A))), σ)) (by omega) (fun f => ?_) (fun i hi f ih => ?_)
        · show f_X11_calls_29_s _ 0 (nI d) (nI n) _ (nI (kt_nr (ka_T A))) σ = _
          unfold f_X11_calls_29_s
          simp (disch := omega) only [↓reduceIte, kz_lt, Option.bind_some, kz_ix, kz_leT, kz_leF, kz_ltT, kz_ltF, kz_lt0, kz_0le, kz_0ltT, kz_le0F, kz_eq0F, kz_10, kz_00, kz_11, kz_01, nI_clamp, nI_1, nI_add, pk_mul, kc0, kc1, kc2, kc3, kc4, kc5, kc6, kc7, kc8, kc9, kc10, kx0, kx1, kx2, kx3, kx4, kx5, kx6, kx7, kx8, kr0_0, kr0_1, kr0_2, kr0_3, kr0_4, kr0_5, kr0_6, kr0_7, kr0_8, kr0_9, kr1_1, kr1_2, kr1_3, kr1_4, kr1_5, kr7_6, kr7_7, kr7_8, kr7_9, kr7_10, kr7_11, kr7_12, kr7_13, kr7_14, kr7_15, kr7_16, kr16_1, kr16_2, kr19_1, kr19_2, kr22_1, kr22_2, kr25_6, kr25_7, kr25_8, kr25_9, kr25_10, kr25_11, kr25_12, kr25_13, kr25_14, kr25_15, kr25_16, kr34_1, kr34_2, kr37_1, kr37_2, kr40_1, kr40_2, kr43_2, kr43_3, kr44_0, kr44_1, kr44_4, kr46_0, kr48_0, kr50_0, kr52_0, kr54_0, kr56_0, kr60_3, kr60_4, kr63_0, kr63_1, kr63_2, kr66_0, kr66_1, kr66_2, kr66_3, kr66_4, kr67_0, kr70_0, kr70_1, kr70_2, kr72_1, kr72_2, kr72_3, kr72_4, kr72_5, kr72_6, kr72_7, kl2, kl3, kl4, kl5, kl6, kl8, kl9, kl10, kl11, kl12, kl13, kl14, kl15, kl17, kl18, kl20, kl21, kl23, kl24, kl26, kl27, kl28, kl29, kl30, kl31, kl32, kl33, kl35, kl36, kl38, kl39, kl41, kl42, kl45, kl47, kl49, kl51, kl53, kl55, kl57, kl58, kl59, kl61, kl62, kl64, kl65, kl68, kl69, kl71, kl73, kl74, kl75, kl76, h.1.1.2.2]
        · obtain ⟨-, t2, -⟩ := hA.1.2.2.2.1 i hi
          show f_X11_calls_29_s _ 0 (nI d) (nI n) _ (nI i) σ = _
          unfold f_X11_calls_29_s f_X11_calls_65
          simp (disch := omega) only [↓reduceIte, kz_lt, Option.bind_some, kz_ix, kz_leT, kz_leF, kz_ltT, kz_ltF, kz_lt0, kz_0le, kz_0ltT, kz_le0F, kz_eq0F, kz_10, kz_00, kz_11, kz_01, nI_clamp, nI_1, nI_add, pk_mul, kc0, kc1, kc2, kc3, kc4, kc5, kc6, kc7, kc8, kc9, kc10, kx0, kx1, kx2, kx3, kx4, kx5, kx6, kx7, kx8, kr0_0, kr0_1, kr0_2, kr0_3, kr0_4, kr0_5, kr0_6, kr0_7, kr0_8, kr0_9, kr1_1, kr1_2, kr1_3, kr1_4, kr1_5, kr7_6, kr7_7, kr7_8, kr7_9, kr7_10, kr7_11, kr7_12, kr7_13, kr7_14, kr7_15, kr7_16, kr16_1, kr16_2, kr19_1, kr19_2, kr22_1, kr22_2, kr25_6, kr25_7, kr25_8, kr25_9, kr25_10, kr25_11, kr25_12, kr25_13, kr25_14, kr25_15, kr25_16, kr34_1, kr34_2, kr37_1, kr37_2, kr40_1, kr40_2, kr43_2, kr43_3, kr44_0, kr44_1, kr44_4, kr46_0, kr48_0, kr50_0, kr52_0, kr54_0, kr56_0, kr60_3, kr60_4, kr63_0, kr63_1, kr63_2, kr66_0, kr66_1, kr66_2, kr66_3, kr66_4, kr67_0, kr70_0, kr70_1, kr70_2, kr72_1, kr72_2, kr72_3, kr72_4, kr72_5, kr72_6, kr72_7, kl2, kl3, kl4, kl5, kl6, kl8, kl9, kl10, kl11, kl12, kl13, kl14, kl15, kl17, kl18, kl20, kl21, kl23, kl24, kl26, kl27, kl28, kl29, kl30, kl31, kl32, kl33, kl35, kl36, kl38, kl39, kl41, kl42, kl45, kl47, kl49, kl51, kl53, kl55, kl57, kl58, kl59, kl61, kl62, kl64, kl65, kl68, kl69, kl71, kl73, kl74, kl75, kl76, h.1.1.2.2, (h.1.2.2.2.2.1 i hi).2.1, kC_due hA hk h hi hn]
          rw [kp_sf_s] at ih
          by_cases b : kt_rd (ka_T A) i = d
          · rw [if_pos (decide_eq_true b)] at ih
            rw [if_pos (by rw [b])]; exact ih
          · rw [if_neg (fun e => b (of_decide_eq_true e))] at ih
            rw [if_neg (fun x => b ((nI_eq (by omega) (by omega)).mp x))]; exact ih
      · obtain ⟨lv, hm⟩ := h.1
        have hl := hm.1
        unfold f_X12_calls
        simp (disch := omega) only [↓reduceIte, kz_lt, Option.bind_some, kz_ix, kz_leT, kz_leF, kz_ltT, kz_ltF, kz_lt0, kz_0le, kz_0ltT, kz_le0F, kz_eq0F, kz_10, kz_00, kz_11, kz_01, nI_clamp, nI_1, nI_add, pk_mul, kc0, kc1, kc2, kc3, kc4, kc5, kc6, kc7, kc8, kc9, kc10, kx0, kx1, kx2, kx3, kx4, kx5, kx6, kx7, kx8, kr77_1, kr77_3, kr77_5, kr77_6, kr77_7, kr77_8, kr77_9, kr77_21, kr77_22, kr77_23, kr77_24, kr77_25, kr77_26, kr77_27, kr77_28, kr77_29, kr77_30, kr77_31, kr77_32, kr77_33, kr77_34, kr77_35, kr77_36, kr77_38, kr77_39, kr77_40, kr77_41, kr77_42, kr77_44, kr77_45, kr77_46, kr77_48, kr77_49, kr77_51, kr77_52, kr77_55, kr77_57, kr77_58, kr77_59, kr77_61, kr77_62, kr77_63, kr77_64, kr77_65, kl78, kl79, kl80, kl81, kl82, kl83, kl84, kl85, kl86, kl87, kl88, kl89, kl90, kl91, kl92, kl93, kl94, kl95, kl96, kl97, kl98, kl99, kl100, kl101, kl102, kl103, kl104, kl105, kl106, kl107, kl108, kl109, kl110, kl111, kl112, kl113, kl114, kl115, kl116, kl117, kl118, kl119, kl120, kl121, kM_door hA.1 hm hd, kM_sm hn n0]
        refine kp_run (n := kt_nr (ka_T A)) (fun i f => f_X12_calls_22 f 77 (nI d) (nI n) (nI (kp_sf (fun r => decide (kt_rd (ka_T A) r = d)) (fun r => kp_du A r n) i)) (nI i) σ = some (nI (kp_sf (fun r => decide (kt_rd (ka_T A) r = d)) (fun r => kp_du A r n) (kt_nr (ka_T A))), σ)) (by omega) (fun f => ?_) (fun i hi f ih => ?_)
        · show f_X12_calls_22_s _ 77 (nI d) (nI n) _ (nI (kt_nr (ka_T A))) σ = _
          unfold f_X12_calls_22_s
          simp (disch := omega) only [↓reduceIte, kz_lt, Option.bind_some, kz_ix, kz_leT, kz_leF, kz_ltT, kz_ltF, kz_lt0, kz_0le, kz_0ltT, kz_le0F, kz_eq0F, kz_10, kz_00, kz_11, kz_01, nI_clamp, nI_1, nI_add, pk_mul, kc0, kc1, kc2, kc3, kc4, kc5, kc6, kc7, kc8, kc9, kc10, kx0, kx1, kx2, kx3, kx4, kx5, kx6, kx7, kx8, kr77_1, kr77_3, kr77_5, kr77_6, kr77_7, kr77_8, kr77_9, kr77_21, kr77_22, kr77_23, kr77_24, kr77_25, kr77_26, kr77_27, kr77_28, kr77_29, kr77_30, kr77_31, kr77_32, kr77_33, kr77_34, kr77_35, kr77_36, kr77_38, kr77_39, kr77_40, kr77_41, kr77_42, kr77_44, kr77_45, kr77_46, kr77_48, kr77_49, kr77_51, kr77_52, kr77_55, kr77_57, kr77_58, kr77_59, kr77_61, kr77_62, kr77_63, kr77_64, kr77_65, kl78, kl79, kl80, kl81, kl82, kl83, kl84, kl85, kl86, kl87, kl88, kl89, kl90, kl91, kl92, kl93, kl94, kl95, kl96, kl97, kl98, kl99, kl100, kl101, kl102, kl103, kl104, kl105, kl106, kl107, kl108, kl109, kl110, kl111, kl112, kl113, kl114, kl115, kl116, kl117, kl118, kl119, kl120, kl121, hm.2.1, hm.2.2.1.2.2]
        · obtain ⟨-, t2, -⟩ := hA.1.2.2.2.1 i hi
          show f_X12_calls_22_s _ 77 (nI d) (nI n) _ (nI i) σ = _
          unfold f_X12_calls_22_s f_X12_calls_65
          simp (disch := omega) only [↓reduceIte, kz_lt, Option.bind_some, kz_ix, kz_leT, kz_leF, kz_ltT, kz_ltF, kz_lt0, kz_0le, kz_0ltT, kz_le0F, kz_eq0F, kz_10, kz_00, kz_11, kz_01, nI_clamp, nI_1, nI_add, pk_mul, kc0, kc1, kc2, kc3, kc4, kc5, kc6, kc7, kc8, kc9, kc10, kx0, kx1, kx2, kx3, kx4, kx5, kx6, kx7, kx8, kr77_1, kr77_3, kr77_5, kr77_6, kr77_7, kr77_8, kr77_9, kr77_21, kr77_22, kr77_23, kr77_24, kr77_25, kr77_26, kr77_27, kr77_28, kr77_29, kr77_30, kr77_31, kr77_32, kr77_33, kr77_34, kr77_35, kr77_36, kr77_38, kr77_39, kr77_40, kr77_41, kr77_42, kr77_44, kr77_45, kr77_46, kr77_48, kr77_49, kr77_51, kr77_52, kr77_55, kr77_57, kr77_58, kr77_59, kr77_61, kr77_62, kr77_63, kr77_64, kr77_65, kl78, kl79, kl80, kl81, kl82, kl83, kl84, kl85, kl86, kl87, kl88, kl89, kl90, kl91, kl92, kl93, kl94, kl95, kl96, kl97, kl98, kl99, kl100, kl101, kl102, kl103, kl104, kl105, kl106, kl107, kl108, kl109, kl110, kl111, kl112, kl113, kl114, kl115, kl116, kl117, kl118, kl119, kl120, kl121, hm.2.1, hm.2.2.1.2.2, kn10, (hm.2.2.2.2.2.2.1 i hi).2.1, kM_due hA hk hm h.2.1 hi hn]
          rw [kp_sf_s] at ih
          by_cases b : kt_rd (ka_T A) i = d
          · rw [if_pos (decide_eq_true b)] at ih
            rw [if_pos (by rw [b])]; exact ih
          · rw [if_neg (fun e => b (of_decide_eq_true e))] at ih
            rw [if_neg (fun x => b ((nI_eq (by omega) (by omega)).mp x))]; exact ih
    · refine kp_qq.st (-1) (fun σ h => ?_) (fun σ h => ?_)
      · unfold f_X11_calls
        simp (disch := omega) only [↓reduceIte, kz_lt, Option.bind_some, kz_ix, kz_leT, kz_leF, kz_ltT, kz_ltF, kz_lt0, kz_0le, kz_0ltT, kz_le0F, kz_eq0F, kz_10, kz_00, kz_11, kz_01, nI_clamp, nI_1, nI_add, pk_mul, kc0, kc1, kc2, kc3, kc4, kc5, kc6, kc7, kc8, kc9, kc10, kx0, kx1, kx2, kx3, kx4, kx5, kx6, kx7, kx8, kr0_0, kr0_1, kr0_2, kr0_3, kr0_4, kr0_5, kr0_6, kr0_7, kr0_8, kr0_9, kr1_1, kr1_2, kr1_3, kr1_4, kr1_5, kr7_6, kr7_7, kr7_8, kr7_9, kr7_10, kr7_11, kr7_12, kr7_13, kr7_14, kr7_15, kr7_16, kr16_1, kr16_2, kr19_1, kr19_2, kr22_1, kr22_2, kr25_6, kr25_7, kr25_8, kr25_9, kr25_10, kr25_11, kr25_12, kr25_13, kr25_14, kr25_15, kr25_16, kr34_1, kr34_2, kr37_1, kr37_2, kr40_1, kr40_2, kr43_2, kr43_3, kr44_0, kr44_1, kr44_4, kr46_0, kr48_0, kr50_0, kr52_0, kr54_0, kr56_0, kr60_3, kr60_4, kr63_0, kr63_1, kr63_2, kr66_0, kr66_1, kr66_2, kr66_3, kr66_4, kr67_0, kr70_0, kr70_1, kr70_2, kr72_1, kr72_2, kr72_3, kr72_4, kr72_5, kr72_6, kr72_7, kl2, kl3, kl4, kl5, kl6, kl8, kl9, kl10, kl11, kl12, kl13, kl14, kl15, kl17, kl18, kl20, kl21, kl23, kl24, kl26, kl27, kl28, kl29, kl30, kl31, kl32, kl33, kl35, kl36, kl38, kl39, kl41, kl42, kl45, kl47, kl49, kl51, kl53, kl55, kl57, kl58, kl59, kl61, kl62, kl64, kl65, kl68, kl69, kl71, kl73, kl74, kl75, kl76, kC_door hA h hd]
        rcases kp_some hy with h1 | ⟨h1, h2, -⟩
        · rw [if_pos h1]
        · rw [if_neg h1, if_neg h2]
      · obtain ⟨lv, hm⟩ := h.1
        unfold f_X12_calls
        simp (disch := omega) only [↓reduceIte, kz_lt, Option.bind_some, kz_ix, kz_leT, kz_leF, kz_ltT, kz_ltF, kz_lt0, kz_0le, kz_0ltT, kz_le0F, kz_eq0F, kz_10, kz_00, kz_11, kz_01, nI_clamp, nI_1, nI_add, pk_mul, kc0, kc1, kc2, kc3, kc4, kc5, kc6, kc7, kc8, kc9, kc10, kx0, kx1, kx2, kx3, kx4, kx5, kx6, kx7, kx8, kr77_1, kr77_3, kr77_5, kr77_6, kr77_7, kr77_8, kr77_9, kr77_21, kr77_22, kr77_23, kr77_24, kr77_25, kr77_26, kr77_27, kr77_28, kr77_29, kr77_30, kr77_31, kr77_32, kr77_33, kr77_34, kr77_35, kr77_36, kr77_38, kr77_39, kr77_40, kr77_41, kr77_42, kr77_44, kr77_45, kr77_46, kr77_48, kr77_49, kr77_51, kr77_52, kr77_55, kr77_57, kr77_58, kr77_59, kr77_61, kr77_62, kr77_63, kr77_64, kr77_65, kl78, kl79, kl80, kl81, kl82, kl83, kl84, kl85, kl86, kl87, kl88, kl89, kl90, kl91, kl92, kl93, kl94, kl95, kl96, kl97, kl98, kl99, kl100, kl101, kl102, kl103, kl104, kl105, kl106, kl107, kl108, kl109, kl110, kl111, kl112, kl113, kl114, kl115, kl116, kl117, kl118, kl119, kl120, kl121, kM_door hA.1 hm hd, kM_smF hy]
  · refine kp_qq.st (-1) (fun σ h => ?_) (fun σ h => ?_)
    · unfold f_X11_calls
      simp (disch := omega) only [↓reduceIte, kz_lt, Option.bind_some, kz_ix, kz_leT, kz_leF, kz_ltT, kz_ltF, kz_lt0, kz_0le, kz_0ltT, kz_le0F, kz_eq0F, kz_10, kz_00, kz_11, kz_01, nI_clamp, nI_1, nI_add, pk_mul, kc0, kc1, kc2, kc3, kc4, kc5, kc6, kc7, kc8, kc9, kc10, kx0, kx1, kx2, kx3, kx4, kx5, kx6, kx7, kx8, kr0_0, kr0_1, kr0_2, kr0_3, kr0_4, kr0_5, kr0_6, kr0_7, kr0_8, kr0_9, kr1_1, kr1_2, kr1_3, kr1_4, kr1_5, kr7_6, kr7_7, kr7_8, kr7_9, kr7_10, kr7_11, kr7_12, kr7_13, kr7_14, kr7_15, kr7_16, kr16_1, kr16_2, kr19_1, kr19_2, kr22_1, kr22_2, kr25_6, kr25_7, kr25_8, kr25_9, kr25_10, kr25_11, kr25_12, kr25_13, kr25_14, kr25_15, kr25_16, kr34_1, kr34_2, kr37_1, kr37_2, kr40_1, kr40_2, kr43_2, kr43_3, kr44_0, kr44_1, kr44_4, kr46_0, kr48_0, kr50_0, kr52_0, kr54_0, kr56_0, kr60_3, kr60_4, kr63_0, kr63_1, kr63_2, kr66_0, kr66_1, kr66_2, kr66_3, kr66_4, kr67_0, kr70_0, kr70_1, kr70_2, kr72_1, kr72_2, kr72_3, kr72_4, kr72_5, kr72_6, kr72_7, kl2, kl3, kl4, kl5, kl6, kl8, kl9, kl10, kl11, kl12, kl13, kl14, kl15, kl17, kl18, kl20, kl21, kl23, kl24, kl26, kl27, kl28, kl29, kl30, kl31, kl32, kl33, kl35, kl36, kl38, kl39, kl41, kl42, kl45, kl47, kl49, kl51, kl53, kl55, kl57, kl58, kl59, kl61, kl62, kl64, kl65, kl68, kl69, kl71, kl73, kl74, kl75, kl76, kC_doorF hA h hx]
    · obtain ⟨lv, hm⟩ := h.1
      unfold f_X12_calls
      simp (disch := omega) only [↓reduceIte, kz_lt, Option.bind_some, kz_ix, kz_leT, kz_leF, kz_ltT, kz_ltF, kz_lt0, kz_0le, kz_0ltT, kz_le0F, kz_eq0F, kz_10, kz_00, kz_11, kz_01, nI_clamp, nI_1, nI_add, pk_mul, kc0, kc1, kc2, kc3, kc4, kc5, kc6, kc7, kc8, kc9, kc10, kx0, kx1, kx2, kx3, kx4, kx5, kx6, kx7, kx8, kr77_1, kr77_3, kr77_5, kr77_6, kr77_7, kr77_8, kr77_9, kr77_21, kr77_22, kr77_23, kr77_24, kr77_25, kr77_26, kr77_27, kr77_28, kr77_29, kr77_30, kr77_31, kr77_32, kr77_33, kr77_34, kr77_35, kr77_36, kr77_38, kr77_39, kr77_40, kr77_41, kr77_42, kr77_44, kr77_45, kr77_46, kr77_48, kr77_49, kr77_51, kr77_52, kr77_55, kr77_57, kr77_58, kr77_59, kr77_61, kr77_62, kr77_63, kr77_64, kr77_65, kl78, kl79, kl80, kl81, kl82, kl83, kl84, kl85, kl86, kl87, kl88, kl89, kl90, kl91, kl92, kl93, kl94, kl95, kl96, kl97, kl98, kl99, kl100, kl101, kl102, kl103, kl104, kl105, kl106, kl107, kl108, kl109, kl110, kl111, kl112, kl113, kl114, kl115, kl116, kl117, kl118, kl119, kl120, kl121, kM_doorF hA.1 hm hx]
