/-! ===== pure: calls that do ===== -/
def kA_do (A : kp_A) (S : kp_S) : kp_A := (ka_T A, S, (kp_pn (ka_n A), kp_pu (ka_n A) (ka_H A) (ka_S A)), A.2.2.2)
theorem kA_do_ok {A : kp_A} {k : Nat} {S : kp_S} (hA : kp_Aok A k) (hS : kp_Gok (ka_T A) (k + 1) S) : kp_Aok (kA_do A S) (k + 1) := by
  have hA' := hA.mo
  refine ⟨hA'.1, hS, fun i hi => ?_, hA'.2.2.2⟩
  have hi' : i < kp_pn (ka_n A) := hi
  show kp_Gok (ka_T A) (k + 1) (kp_pu (ka_n A) (ka_H A) (ka_S A) i)
  unfold kp_pn at hi'
  unfold kp_pu
  by_cases e : ka_n A = 40
  · rw [if_pos e] at hi' ⊢
    by_cases b : i < 39
    · rw [if_pos b]; exact hA'.2.2.1 (i + 1) (by omega)
    · rw [if_neg b]; exact hA'.2.1
  · rw [if_neg e] at hi' ⊢
    by_cases b : i < ka_n A
    · rw [if_pos b]; exact hA'.2.2.1 i b
    · rw [if_neg b]; exact hA'.2.1
def kp_yC (r : Nat) : Prop := r = 44 ∨ (46 ≤ r ∧ r ≤ 58) ∨ r = 60 ∨ r = 61 ∨ kp_xC r
theorem kC_did {A : kp_A} {σ σ' : kf_St} {S : kp_S} (h : kp_Cr A σ) (c : kp_ch kp_yC σ σ') (e1 : σ'.1 60 1 = σ.1 60 1) (hH : kp_HC σ' (kt_nd (ka_T A)) (kp_pn (ka_n A)) (kp_pu (ka_n A) (ka_H A) (ka_S A))) (hS : kp_cS σ' (kt_nd (ka_T A)) S) : kp_frC σ σ' ∧ kp_Cr (kA_do A S) σ' := by
  obtain ⟨h1, h2, h3, h4, h5, h6, h7, h8⟩ := h
  have e : ∀ r, ¬ kp_yC r → σ'.1 r = σ.1 r := c.1
  unfold kp_yC kp_xC at e
  refine ⟨c.frC (fun r q => by unfold kp_yC kp_xC at q; omega), h1.ch (fun r a b d f => e r (by omega)), hS, hH, h4.ch e1 (e 62 (by omega)), ?_, ?_, ?_, ?_⟩
  · rw [e 72 (by omega), e 73 (by omega), e 74 (by omega), e 75 (by omega)]; exact h5
  · rw [e 1 (by omega), e 2 (by omega)]; exact h6
  · rw [e 43 (by omega)]; exact h7
  · rw [c.2]; exact h8
theorem kC_rem {A : kp_A} {k : Nat} {σ : kf_St} (hA : kp_Aok A k) (h : kp_Cr A σ) : ∃ τ, f_X3_remember 60 44 σ = some τ ∧ kp_ch (fun r => r = 60 ∨ r = 61) σ τ ∧ τ.1 60 1 = σ.1 60 1 ∧ kp_HC τ (kt_nd (ka_T A)) (kp_pn (ka_n A)) (kp_pu (ka_n A) (ka_H A) (ka_S A)) ∧ kp_CT (ka_T A) τ ∧ kp_cS τ (kt_nd (ka_T A)) (ka_S A) := by
  obtain ⟨τ, a1, a2, a3, a4⟩ := kp_remember h.2.1 hA.1.1.1 hA.2.1.1 h.2.2.1
  exact ⟨τ, a1, a2, a3, a4, h.1.ch (fun r _ _ _ _ => a2.1 r (by omega)), h.2.1.ch hA.1.1.1 (fun r _ => a2.1 r (by omega))⟩
theorem kM_did {A : kp_A} {σ τ : kf_St} {S : kp_S} (h : kp_Mr A σ) (c : kp_chM kp_xM kp_jM σ τ) (hS : kp_fS (τ.1 112) S) : ∃ σ', f_X12_records 77 τ = some σ' ∧ kp_frM σ σ' ∧ kp_Mr (kA_do A S) σ' ∧ σ'.1 111 69 = nI S.2.2.2 := by
  have h' := h.ch c
  obtain ⟨σ', a1, a2, a3, a4⟩ := kp_records h'.2.2.1 h'.2.1
  obtain ⟨⟨lv, h1⟩, h2, h3, h4, h5, h6, h7, h8⟩ := h'
  have e : ∀ r, ¬ (r = 111 ∨ r = 114) → r ≠ 77 → σ'.1 r = τ.1 r := a2.1
  have j : ∀ r, ¬ r = 56 → σ'.1 77 r = τ.1 77 r := a2.2.1
  have hS' : kp_fS (σ'.1 111) S := hS.ch a4
  refine ⟨σ', a1, (c.frM (fun r q => by unfold kp_xM at q; omega)).tr (a2.frM (fun r q => by omega)), ⟨⟨lv, h1.ch (fun r a b => e r (by omega) (by omega)) (j 18 (by omega))⟩, hS', a3, h4.ch (e 120 (by omega) (by omega)) (e 121 (by omega) (by omega)), ?_, ?_, ?_, ?_⟩, hS'.2.2.2⟩
  · rw [j 60 (by omega), e 117 (by omega) (by omega), e 118 (by omega) (by omega), e 119 (by omega) (by omega)]; exact h5
  · rw [j 2 (by omega), e 78 (by omega) (by omega)]; exact h6
  · rw [j 17 (by omega)]; exact h7
  · rw [a2.2.2]; exact h8
theorem kp_cS.set {σ τ : kf_St} {nd d : Nat} {S : kp_S} {D : kp_D} (h : kp_cS σ nd S) (hn : nd ≤ 6) (hd : d < nd) (e : ∀ r, r = 44 ∨ r = 58 ∨ (46 ≤ r ∧ r < 58 ∧ r ≠ 46 + 2 * d ∧ r ≠ 46 + 2 * d + 1) → τ.1 r = σ.1 r) (eD : kp_cD τ (46 + 2 * d) = D) : kp_cS τ nd (fun x => if x = d then D else S.1 x, S.2) := by
  obtain ⟨h1, h2, h3, h4⟩ := h
  refine ⟨fun x hx => ?_, fun c hc => by rw [e 58 (by omega)]; exact h2 c hc, by rw [e 44 (by omega)]; exact h3, by rw [e 44 (by omega)]; exact h4⟩
  show _ = if x = d then D else S.1 x
  by_cases b : x = d
  · rw [if_pos b, b]; exact eD
  · rw [if_neg b, ← h1 x hx]
    exact kp_cD_eq (e _ (by omega)) (e _ (by omega))
/-! lift -/
theorem ko_lift {A : kp_A} {k : Nat} (hA : kp_Aok A k) (x y : Int32) : kp_op A k (f_X11_lift 0 x y) (f_X12_lift 77 x y) := by
  have h6 := hA.1.1.1
  have h5 := hA.1.1.2.1
  refine kp_dc x y hA.1 (fun hx => ?_) (fun d c hd hc ex ey => ?_)
  · refine kp_qq.op hA (kp_qq.st 0 (fun σ h => ?_) (fun σ h => ?_))
    · unfold f_X11_lift
      simp (disch := omega) only [↓reduceIte, kz_lt, Option.bind_some, kz_ix, kz_leT, kz_leF, kz_ltT, kz_ltF, kz_lt0, kz_0le, kz_0ltT, kz_le0F, kz_eq0F, kz_10, kz_00, kz_11, kz_01, nI_clamp, nI_1, nI_add, pk_mul, kc0, kc1, kc2, kc3, kc4, kc5, kc6, kc7, kc8, kc9, kc10, kx0, kx1, kx2, kx3, kx4, kx5, kx6, kx7, kx8, kr0_0, kr0_1, kr0_2, kr0_3, kr0_4, kr0_5, kr0_6, kr0_7, kr0_8, kr0_9, kr1_1, kr1_2, kr1_3, kr1_4, kr1_5, kr7_6, kr7_7, kr7_8, kr7_9, kr7_10, kr7_11, kr7_12, kr7_13, kr7_14, kr7_15, kr7_16, kr16_1, kr16_2, kr19_1, kr19_2, kr22_1, kr22_2, kr25_6, kr25_7, kr25_8, kr25_9, kr25_10, kr25_11, kr25_12, kr25_13, kr25_14, kr25_15, kr25_16, kr34_1, kr34_2, kr37_1, kr37_2, kr40_1, kr40_2, kr43_2, kr43_3, kr44_0, kr44_1, kr44_4, kr46_0, kr48_0, kr50_0, kr52_0, kr54_0, kr56_0, kr60_3, kr60_4, kr63_0, kr63_1, kr63_2, kr66_0, kr66_1, kr66_2, kr66_3, kr66_4, kr67_0, kr70_0, kr70_1, kr70_2, kr72_1, kr72_2, kr72_3, kr72_4, kr72_5, kr72_6, kr72_7, kl2, kl3, kl4, kl5, kl6, kl8, kl9, kl10, kl11, kl12, kl13, kl14, kl15, kl17, kl18, kl20, kl21, kl23, kl24, kl26, kl27, kl28, kl29, kl30, kl31, kl32, kl33, kl35, kl36, kl38, kl39, kl41, kl42, kl45, kl47, kl49, kl51, kl53, kl55, kl57, kl58, kl59, kl61, kl62, kl64, kl65, kl68, kl69, kl71, kl73, kl74, kl75, kl76, kC_bothF hA h hx]
    · obtain ⟨lv, hm⟩ := h.1
      unfold f_X12_lift
      simp (disch := omega) only [↓reduceIte, kz_lt, Option.bind_some, kz_ix, kz_leT, kz_leF, kz_ltT, kz_ltF, kz_lt0, kz_0le, kz_0ltT, kz_le0F, kz_eq0F, kz_10, kz_00, kz_11, kz_01, nI_clamp, nI_1, nI_add, pk_mul, kc0, kc1, kc2, kc3, kc4, kc5, kc6, kc7, kc8, kc9, kc10, kx0, kx1, kx2, kx3, kx4, kx5, kx6, kx7, kx8, kr77_1, kr77_3, kr77_5, kr77_6, kr77_7, kr77_8, kr77_9, kr77_21, kr77_22, kr77_23, kr77_24, kr77_25, kr77_26, kr77_27, kr77_28, kr77_29, kr77_30, kr77_31, kr77_32, kr77_33, kr77_34, kr77_35, kr77_36, kr77_38, kr77_39, kr77_40, kr77_41, kr77_42, kr77_44, kr77_45, kr77_46, kr77_48, kr77_49, kr77_51, kr77_52, kr77_55, kr77_57, kr77_58, kr77_59, kr77_61, kr77_62, kr77_63, kr77_64, kr77_65, kl78, kl79, kl80, kl81, kl82, kl83, kl84, kl85, kl86, kl87, kl88, kl89, kl90, kl91, kl92, kl93, kl94, kl95, kl96, kl97, kl98, kl99, kl100, kl101, kl102, kl103, kl104, kl105, kl106, kl107, kl108, kl109, kl110, kl111, kl112, kl113, kl114, kl115, kl116, kl117, kl118, kl119, kl120, kl121, kM_bothF hA.1 hm hx]
  · subst ex ey
    refine ⟨1, kA_do A (kp_lfS (ka_T A) (ka_S A) d c), kA_do_ok hA ⟨fun x hx => ?_, fun x a b => ?_, hA.2.1.2.2.1, hA.mo.2.1.2.2.2⟩, fun σ h => ?_, fun σ h => ?_⟩
    · show kp_Dok (if x = d then _ else _)
      by_cases b : x = d
      · rw [if_pos b]; exact kp_lf_ok hA.1 (hA.2.1.1 d hd) hc _
      · rw [if_neg b]; exact hA.2.1.1 x hx
    · show (if x = d then _ else _) = _
      rw [if_neg (by omega)]; exact hA.2.1.2.1 x a b
    · obtain ⟨τ, a1, a2, a3, a4, a5, a6⟩ := kC_rem hA h
      have eD := a6.1 d hd
      have fD := (kp_cD_f eD).1
      obtain ⟨τ2, b1, b2, b3⟩ := kp_liftBy (k := 46 + 2 * d) (dy := nI (ka_S A).2.2.2) hA.1 a5 (kp_isK_d (by omega)) hc (fun q hq => by rw [fD q hq]; exact (hA.2.1.1 d hd).1 q hq)
      rw [eD] at b3
      have e58 : τ2.1 58 c = (ka_S A).2.1 c := by rw [b2.1 58 (by omega)]; exact a6.2.1 c (by omega)
      refine ⟨kf_wi τ2 58 c ((ka_S A).2.1 c + 1), ?_, ?_⟩
      · unfold f_X11_lift
        simp (disch := omega) only [↓reduceIte, kz_lt, Option.bind_some, kz_ix, kz_leT, kz_leF, kz_ltT, kz_ltF, kz_lt0, kz_0le, kz_0ltT, kz_le0F, kz_eq0F, kz_10, kz_00, kz_11, kz_01, nI_clamp, nI_1, nI_add, pk_mul, kc0, kc1, kc2, kc3, kc4, kc5, kc6, kc7, kc8, kc9, kc10, kx0, kx1, kx2, kx3, kx4, kx5, kx6, kx7, kx8, kr0_0, kr0_1, kr0_2, kr0_3, kr0_4, kr0_5, kr0_6, kr0_7, kr0_8, kr0_9, kr1_1, kr1_2, kr1_3, kr1_4, kr1_5, kr7_6, kr7_7, kr7_8, kr7_9, kr7_10, kr7_11, kr7_12, kr7_13, kr7_14, kr7_15, kr7_16, kr16_1, kr16_2, kr19_1, kr19_2, kr22_1, kr22_2, kr25_6, kr25_7, kr25_8, kr25_9, kr25_10, kr25_11, kr25_12, kr25_13, kr25_14, kr25_15, kr25_16, kr34_1, kr34_2, kr37_1, kr37_2, kr40_1, kr40_2, kr43_2, kr43_3, kr44_0, kr44_1, kr44_4, kr46_0, kr48_0, kr50_0, kr52_0, kr54_0, kr56_0, kr60_3, kr60_4, kr63_0, kr63_1, kr63_2, kr66_0, kr66_1, kr66_2, kr66_3, kr66_4, kr67_0, kr70_0, kr70_1, kr70_2, kr72_1, kr72_2, kr72_3, kr72_4, kr72_5, kr72_6, kr72_7, kl2, kl3, kl4, kl5, kl6, kl8, kl9, kl10, kl11, kl12, kl13, kl14, kl15, kl17, kl18, kl20, kl21, kl23, kl24, kl26, kl27, kl28, kl29, kl30, kl31, kl32, kl33, kl35, kl36, kl38, kl39, kl41, kl42, kl45, kl47, kl49, kl51, kl53, kl55, kl57, kl58, kl59, kl61, kl62, kl64, kl65, kl68, kl69, kl71, kl73, kl74, kl75, kl76, kC_both hA h hd hc, a1, kz_rf45, a6.2.2.2, b1, e58]
      · have cc : kp_ch kp_yC σ τ2 := (a2.mono (fun r e => by unfold kp_yC; omega)).tr (b2.mono (fun r e => by unfold kp_yC kp_xC; omega))
        refine kC_did h (kp_ch.wi (S := kp_yC) cc (by unfold kp_yC; omega)) ?_ ?_ ?_
        · rw [kp_wi_row (by decide), b2.1 60 (by omega)]; exact a3
        · exact a4.ch (by rw [kz_rowf (by decide)]; exact b2.1 60 (by omega)) (by rw [kz_rowf (by decide)]; exact b2.1 61 (by omega))
        · have q := a6.set (τ := τ2) h6 hd (fun r e => b2.1 r (by omega)) b3
          refine ⟨fun x hx => ?_, fun i hi => ?_, by rw [kp_wi_row (by decide)]; exact q.2.2.1, by rw [kp_wi_row (by decide)]; exact q.2.2.2⟩
          · rw [kp_cD_eq (σ := τ2) (kz_rowf (by omega)) (kz_rowf (by omega))]; exact q.1 x hx
          · show _ = if i = c then _ else _
            by_cases b : i = c
            · rw [if_pos b, b, kp_wi_same]
            · rw [if_neg b, kp_wi_col b]; exact q.2.1 i hi
    · obtain ⟨lv, τ, e, c', hm, hm', hs, -⟩ := kM_co hA h
      obtain ⟨τ2, b1, b2, b3⟩ := kp_lifted hA.1 hm' (show d < 6 by omega) hc hs (hA.2.1.1 d hd)
      obtain ⟨σ', r1, r2, r3, -⟩ := kM_did h (c'.tr (kM_xg b2)) b3
      refine ⟨σ', ?_, r2, r3⟩
      unfold f_X12_lift
      simp (disch := omega) only [↓reduceIte, kz_lt, Option.bind_some, kz_ix, kz_leT, kz_leF, kz_ltT, kz_ltF, kz_lt0, kz_0le, kz_0ltT, kz_le0F, kz_eq0F, kz_10, kz_00, kz_11, kz_01, nI_clamp, nI_1, nI_add, pk_mul, kc0, kc1, kc2, kc3, kc4, kc5, kc6, kc7, kc8, kc9, kc10, kx0, kx1, kx2, kx3, kx4, kx5, kx6, kx7, kx8, kr77_1, kr77_3, kr77_5, kr77_6, kr77_7, kr77_8, kr77_9, kr77_21, kr77_22, kr77_23, kr77_24, kr77_25, kr77_26, kr77_27, kr77_28, kr77_29, kr77_30, kr77_31, kr77_32, kr77_33, kr77_34, kr77_35, kr77_36, kr77_38, kr77_39, kr77_40, kr77_41, kr77_42, kr77_44, kr77_45, kr77_46, kr77_48, kr77_49, kr77_51, kr77_52, kr77_55, kr77_57, kr77_58, kr77_59, kr77_61, kr77_62, kr77_63, kr77_64, kr77_65, kl78, kl79, kl80, kl81, kl82, kl83, kl84, kl85, kl86, kl87, kl88, kl89, kl90, kl91, kl92, kl93, kl94, kl95, kl96, kl97, kl98, kl99, kl100, kl101, kl102, kl103, kl104, kl105, kl106, kl107, kl108, kl109, kl110, kl111, kl112, kl113, kl114, kl115, kl116, kl117, kl118, kl119, kl120, kl121, kM_both hA.1 hm hd hc, e, b1, r1]
theorem kp_Gok.set {T : kp_T} {k d : Nat} {S : kp_S} {D : kp_D} (h : kp_Gok T k S) (hd : d < kt_nd T) (hD : kp_Dok D) : kp_Gok T k (fun x => if x = d then D else S.1 x, S.2) := by
  refine ⟨fun x hx => ?_, fun x a b => ?_, h.2.2.1, h.2.2.2⟩
  · show kp_Dok (if x = d then _ else _)
    by_cases b : x = d
    · rw [if_pos b]; exact hD
    · rw [if_neg b]; exact h.1 x hx
  · show (if x = d then _ else _) = _
    rw [if_neg (by omega)]; exact h.2.1 x a b
theorem ko_polish {A : kp_A} {k : Nat} (hA : kp_Aok A k) (x : Int32) : kp_op A k (f_X11_polish 0 x) (f_X12_polish 77 x) := by
  have h6 := hA.1.1.1
  by_cases hx : kp_is x (kt_nd (ka_T A)) = true
  · obtain ⟨d, hd, rfl⟩ := kp_is_t (by omega) hx
    refine ⟨1, kA_do A (fun x => if x = d then kp_rb (ka_T A) ((ka_S A).1 d) d else (ka_S A).1 x, (ka_S A).2), kA_do_ok hA (hA.mo.2.1.set hd (kp_rb_ok hA.1 (hA.2.1.1 d hd) hd)), fun σ h => ?_, fun σ h => ?_⟩
    · obtain ⟨τ, a1, a2, a3, a4, a5, a6⟩ := kC_rem hA h
      have eD := a6.1 d hd
      have fD := (kp_cD_f eD).1
      obtain ⟨τ2, b1, b2, b3⟩ := kp_rub (k := 46 + 2 * d) hA.1 a5 (kp_isK_d (by omega)) hd (fun q hq => by rw [fD q hq]; exact (hA.2.1.1 d hd).1 q hq)
      rw [eD] at b3
      refine ⟨τ2, ?_, ?_⟩
      · unfold f_X11_polish
        simp (disch := omega) only [↓reduceIte, kz_lt, Option.bind_some, kz_ix, kz_leT, kz_leF, kz_ltT, kz_ltF, kz_lt0, kz_0le, kz_0ltT, kz_le0F, kz_eq0F, kz_10, kz_00, kz_11, kz_01, nI_clamp, nI_1, nI_add, pk_mul, kc0, kc1, kc2, kc3, kc4, kc5, kc6, kc7, kc8, kc9, kc10, kx0, kx1, kx2, kx3, kx4, kx5, kx6, kx7, kx8, kr0_0, kr0_1, kr0_2, kr0_3, kr0_4, kr0_5, kr0_6, kr0_7, kr0_8, kr0_9, kr1_1, kr1_2, kr1_3, kr1_4, kr1_5, kr7_6, kr7_7, kr7_8, kr7_9, kr7_10, kr7_11, kr7_12, kr7_13, kr7_14, kr7_15, kr7_16, kr16_1, kr16_2, kr19_1, kr19_2, kr22_1, kr22_2, kr25_6, kr25_7, kr25_8, kr25_9, kr25_10, kr25_11, kr25_12, kr25_13, kr25_14, kr25_15, kr25_16, kr34_1, kr34_2, kr37_1, kr37_2, kr40_1, kr40_2, kr43_2, kr43_3, kr44_0, kr44_1, kr44_4, kr46_0, kr48_0, kr50_0, kr52_0, kr54_0, kr56_0, kr60_3, kr60_4, kr63_0, kr63_1, kr63_2, kr66_0, kr66_1, kr66_2, kr66_3, kr66_4, kr67_0, kr70_0, kr70_1, kr70_2, kr72_1, kr72_2, kr72_3, kr72_4, kr72_5, kr72_6, kr72_7, kl2, kl3, kl4, kl5, kl6, kl8, kl9, kl10, kl11, kl12, kl13, kl14, kl15, kl17, kl18, kl20, kl21, kl23, kl24, kl26, kl27, kl28, kl29, kl30, kl31, kl32, kl33, kl35, kl36, kl38, kl39, kl41, kl42, kl45, kl47, kl49, kl51, kl53, kl55, kl57, kl58, kl59, kl61, kl62, kl64, kl65, kl68, kl69, kl71, kl73, kl74, kl75, kl76, kC_door hA h hd, a1, kz_rf45, b1]
      · have cc : kp_ch kp_yC σ τ2 := (a2.mono (fun r e => by unfold kp_yC; omega)).tr (b2.mono (fun r e => by unfold kp_yC kp_xC; omega))
        refine kC_did h cc ?_ ?_ ?_
        · rw [b2.1 60 (by omega)]; exact a3
        · exact a4.ch (b2.1 60 (by omega)) (b2.1 61 (by omega))
        · exact a6.set (τ := τ2) h6 hd (fun r e => b2.1 r (by omega)) b3
    · obtain ⟨lv, τ, e, c', hm, hm', hs, -⟩ := kM_co hA h
      obtain ⟨τ2, b1, b2, b3⟩ := kM_pol hA.1 hm' hd hs
      obtain ⟨σ', r1, r2, r3, -⟩ := kM_did h (c'.tr (b2.mono (fun r e => by unfold kp_xM; omega) (fun r e => e.elim))) b3
      refine ⟨σ', ?_, r2, r3⟩
      unfold f_X12_polish
      simp (disch := omega) only [↓reduceIte, kz_lt, Option.bind_some, kz_ix, kz_leT, kz_leF, kz_ltT, kz_ltF, kz_lt0, kz_0le, kz_0ltT, kz_le0F, kz_eq0F, kz_10, kz_00, kz_11, kz_01, nI_clamp, nI_1, nI_add, pk_mul, kc0, kc1, kc2, kc3, kc4, kc5, kc6, kc7, kc8, kc9, kc10, kx0, kx1, kx2, kx3, kx4, kx5, kx6, kx7, kx8, kr77_1, kr77_3, kr77_5, kr77_6, kr77_7, kr77_8, kr77_9, kr77_21, kr77_22, kr77_23, kr77_24, kr77_25, kr77_26, kr77_27, kr77_28, kr77_29, kr77_30, kr77_31, kr77_32, kr77_33, kr77_34, kr77_35, kr77_36, kr77_38, kr77_39, kr77_40, kr77_41, kr77_42, kr77_44, kr77_45, kr77_46, kr77_48, kr77_49, kr77_51, kr77_52, kr77_55, kr77_57, kr77_58, kr77_59, kr77_61, kr77_62, kr77_63, kr77_64, kr77_65, kl78, kl79, kl80, kl81, kl82, kl83, kl84, kl85, kl86, kl87, kl88, kl89, kl90, kl91, kl92, kl93, kl94, kl95, kl96, kl97, kl98, kl99, kl100, kl101, kl102, kl103, kl104, kl105, kl106, kl107, kl108, kl109, kl110, kl111, kl112, kl113, kl114, kl115, kl116, kl117, kl118, kl119, kl120, kl121, kM_door hA.1 hm hd, e, b1, r1]
  · refine kp_qq.op hA (kp_qq.st 0 (fun σ h => ?_) (fun σ h => ?_))
    · unfold f_X11_polish
      simp (disch := omega) only [↓reduceIte, kz_lt, Option.bind_some, kz_ix, kz_leT, kz_leF, kz_ltT, kz_ltF, kz_lt0, kz_0le, kz_0ltT, kz_le0F, kz_eq0F, kz_10, kz_00, kz_11, kz_01, nI_clamp, nI_1, nI_add, pk_mul, kc0, kc1, kc2, kc3, kc4, kc5, kc6, kc7, kc8, kc9, kc10, kx0, kx1, kx2, kx3, kx4, kx5, kx6, kx7, kx8, kr0_0, kr0_1, kr0_2, kr0_3, kr0_4, kr0_5, kr0_6, kr0_7, kr0_8, kr0_9, kr1_1, kr1_2, kr1_3, kr1_4, kr1_5, kr7_6, kr7_7, kr7_8, kr7_9, kr7_10, kr7_11, kr7_12, kr7_13, kr7_14, kr7_15, kr7_16, kr16_1, kr16_2, kr19_1, kr19_2, kr22_1, kr22_2, kr25_6, kr25_7, kr25_8, kr25_9, kr25_10, kr25_11, kr25_12, kr25_13, kr25_14, kr25_15, kr25_16, kr34_1, kr34_2, kr37_1, kr37_2, kr40_1, kr40_2, kr43_2, kr43_3, kr44_0, kr44_1, kr44_4, kr46_0, kr48_0, kr50_0, kr52_0, kr54_0, kr56_0, kr60_3, kr60_4, kr63_0, kr63_1, kr63_2, kr66_0, kr66_1, kr66_2, kr66_3, kr66_4, kr67_0, kr70_0, kr70_1, kr70_2, kr72_1, kr72_2, kr72_3, kr72_4, kr72_5, kr72_6, kr72_7, kl2, kl3, kl4, kl5, kl6, kl8, kl9, kl10, kl11, kl12, kl13, kl14, kl15, kl17, kl18, kl20, kl21, kl23, kl24, kl26, kl27, kl28, kl29, kl30, kl31, kl32, kl33, kl35, kl36, kl38, kl39, kl41, kl42, kl45, kl47, kl49, kl51, kl53, kl55, kl57, kl58, kl59, kl61, kl62, kl64, kl65, kl68, kl69, kl71, kl73, kl74, kl75, kl76, kC_doorF hA h hx]
    · obtain ⟨lv, hm⟩ := h.1
      unfold f_X12_polish
      simp (disch := omega) only [↓reduceIte, kz_lt, Option.bind_some, kz_ix, kz_leT, kz_leF, kz_ltT, kz_ltF, kz_lt0, kz_0le, kz_0ltT, kz_le0F, kz_eq0F, kz_10, kz_00, kz_11, kz_01, nI_clamp, nI_1, nI_add, pk_mul, kc0, kc1, kc2, kc3, kc4, kc5, kc6, kc7, kc8, kc9, kc10, kx0, kx1, kx2, kx3, kx4, kx5, kx6, kx7, kx8, kr77_1, kr77_3, kr77_5, kr77_6, kr77_7, kr77_8, kr77_9, kr77_21, kr77_22, kr77_23, kr77_24, kr77_25, kr77_26, kr77_27, kr77_28, kr77_29, kr77_30, kr77_31, kr77_32, kr77_33, kr77_34, kr77_35, kr77_36, kr77_38, kr77_39, kr77_40, kr77_41, kr77_42, kr77_44, kr77_45, kr77_46, kr77_48, kr77_49, kr77_51, kr77_52, kr77_55, kr77_57, kr77_58, kr77_59, kr77_61, kr77_62, kr77_63, kr77_64, kr77_65, kl78, kl79, kl80, kl81, kl82, kl83, kl84, kl85, kl86, kl87, kl88, kl89, kl90, kl91, kl92, kl93, kl94, kl95, kl96, kl97, kl98, kl99, kl100, kl101, kl102, kl103, kl104, kl105, kl106, kl107, kl108, kl109, kl110, kl111, kl112, kl113, kl114, kl115, kl116, kl117, kl118, kl119, kl120, kl121, kM_doorF hA.1 hm hx]
/-! file -/
def kp_fl (D : kp_D) (p : Nat) : kp_D := (kd_cut (fun q => if q = p then 0 else D.1 q), D.2)
theorem kp_fl_ok {D : kp_D} (h : kp_Dok D) (p : Nat) : kp_Dok (kp_fl D p) := by
  refine ⟨fun q hq => ?_, h.2⟩
  show kp_sm (kd_cut (fun q => if q = p then 0 else D.1 q) q)
  rw [kd_cut_at hq]
  by_cases b : q = p
  · rw [if_pos b]; exact ⟨0, by decide, rfl⟩
  · rw [if_neg b]; exact h.1 q hq
theorem ko_file {A : kp_A} {k : Nat} (hA : kp_Aok A k) (x y : Int32) : kp_op A k (f_X11_file 0 x y) (f_X12_file 77 x y) := by
  have h6 := hA.1.1.1
  by_cases hx : kp_is x (kt_nd (ka_T A)) = true
  · obtain ⟨d, hd, rfl⟩ := kp_is_t (by omega) hx
    by_cases hy : kp_is y 4 = true
    · obtain ⟨p, hp, rfl⟩ := kp_is_t (by decide) hy
      by_cases h0 : ((ka_S A).1 d).1 p = 0
      · refine kp_qq.op hA (kp_qq.st 0 (fun σ h => ?_) (fun σ h => ?_))
        · unfold f_X11_file
          simp (disch := omega) only [↓reduceIte, kz_lt, Option.bind_some, kz_ix, kz_leT, kz_leF, kz_ltT, kz_ltF, kz_lt0, kz_0le, kz_0ltT, kz_le0F, kz_eq0F, kz_10, kz_00, kz_11, kz_01, nI_clamp, nI_1, nI_add, pk_mul, kc0, kc1, kc2, kc3, kc4, kc5, kc6, kc7, kc8, kc9, kc10, kx0, kx1, kx2, kx3, kx4, kx5, kx6, kx7, kx8, kr0_0, kr0_1, kr0_2, kr0_3, kr0_4, kr0_5, kr0_6, kr0_7, kr0_8, kr0_9, kr1_1, kr1_2, kr1_3, kr1_4, kr1_5, kr7_6, kr7_7, kr7_8, kr7_9, kr7_10, kr7_11, kr7_12, kr7_13, kr7_14, kr7_15, kr7_16, kr16_1, kr16_2, kr19_1, kr19_2, kr22_1, kr22_2, kr25_6, kr25_7, kr25_8, kr25_9, kr25_10, kr25_11, kr25_12, kr25_13, kr25_14, kr25_15, kr25_16, kr34_1, kr34_2, kr37_1, kr37_2, kr40_1, kr40_2, kr43_2, kr43_3, kr44_0, kr44_1, kr44_4, kr46_0, kr48_0, kr50_0, kr52_0, kr54_0, kr56_0, kr60_3, kr60_4, kr63_0, kr63_1, kr63_2, kr66_0, kr66_1, kr66_2, kr66_3, kr66_4, kr67_0, kr70_0, kr70_1, kr70_2, kr72_1, kr72_2, kr72_3, kr72_4, kr72_5, kr72_6, kr72_7, kl2, kl3, kl4, kl5, kl6, kl8, kl9, kl10, kl11, kl12, kl13, kl14, kl15, kl17, kl18, kl20, kl21, kl23, kl24, kl26, kl27, kl28, kl29, kl30, kl31, kl32, kl33, kl35, kl36, kl38, kl39, kl41, kl42, kl45, kl47, kl49, kl51, kl53, kl55, kl57, kl58, kl59, kl61, kl62, kl64, kl65, kl68, kl69, kl71, kl73, kl74, kl75, kl76, kC_door hA h hd, kC_pt hp, kz_rf45, kz_rfK, kz_lnK, (kC_fa h hd).1 p hp, h0]
        · obtain ⟨lv, hm⟩ := h.1
          unfold f_X12_file
          simp (disch := omega) only [↓reduceIte, kz_lt, Option.bind_some, kz_ix, kz_leT, kz_leF, kz_ltT, kz_ltF, kz_lt0, kz_0le, kz_0ltT, kz_le0F, kz_eq0F, kz_10, kz_00, kz_11, kz_01, nI_clamp, nI_1, nI_add, pk_mul, kc0, kc1, kc2, kc3, kc4, kc5, kc6, kc7, kc8, kc9, kc10, kx0, kx1, kx2, kx3, kx4, kx5, kx6, kx7, kx8, kr77_1, kr77_3, kr77_5, kr77_6, kr77_7, kr77_8, kr77_9, kr77_21, kr77_22, kr77_23, kr77_24, kr77_25, kr77_26, kr77_27, kr77_28, kr77_29, kr77_30, kr77_31, kr77_32, kr77_33, kr77_34, kr77_35, kr77_36, kr77_38, kr77_39, kr77_40, kr77_41, kr77_42, kr77_44, kr77_45, kr77_46, kr77_48, kr77_49, kr77_51, kr77_52, kr77_55, kr77_57, kr77_58, kr77_59, kr77_61, kr77_62, kr77_63, kr77_64, kr77_65, kl78, kl79, kl80, kl81, kl82, kl83, kl84, kl85, kl86, kl87, kl88, kl89, kl90, kl91, kl92, kl93, kl94, kl95, kl96, kl97, kl98, kl99, kl100, kl101, kl102, kl103, kl104, kl105, kl106, kl107, kl108, kl109, kl110, kl111, kl112, kl113, kl114, kl115, kl116, kl117, kl118, kl119, kl120, kl121, kM_door hA.1 hm hd, kM_pt hp, kp_n4, (kp_fD_f (h.2.1.1 d (by omega))).1 p hp, h0]
      · refine ⟨1, kA_do A (fun x => if x = d then kp_fl ((ka_S A).1 d) p else (ka_S A).1 x, (ka_S A).2), kA_do_ok hA (hA.mo.2.1.set hd (kp_fl_ok (hA.2.1.1 d hd) p)), fun σ h => ?_, fun σ h => ?_⟩
        · obtain ⟨τ, a1, a2, a3, a4, a5, a6⟩ := kC_rem hA h
          have eD := a6.1 d hd
          obtain ⟨f0, f1, f2, f3, f4, f5⟩ := kp_cD_f eD
          have b3 : kp_cD (kf_wi τ (46 + 2 * d + 1) p 0) (46 + 2 * d) = kp_fl ((ka_S A).1 d) p := by
            refine kp_cD_mk (fun q hq => ?_) ?_ ?_ ?_ ?_ ?_
            · by_cases b : q = p
              · rw [if_pos b, b, kp_wi_same]
              · rw [if_neg b, kp_wi_col b]; exact f0 q hq
            · rw [kp_wi_row (by omega)]; exact f1
            · rw [kp_wi_row (by omega)]; exact f2
            · rw [kp_wi_row (by omega)]; exact f3
            · rw [kp_wi_row (by omega)]; exact f4
            · rw [kp_wi_row (by omega)]; exact f5
          refine ⟨kf_wi τ (46 + 2 * d + 1) p 0, ?_, ?_⟩
          · unfold f_X11_file
            simp (disch := omega) only [↓reduceIte, kz_lt, Option.bind_some, kz_ix, kz_leT, kz_leF, kz_ltT, kz_ltF, kz_lt0, kz_0le, kz_0ltT, kz_le0F, kz_eq0F, kz_10, kz_00, kz_11, kz_01, nI_clamp, nI_1, nI_add, pk_mul, kc0, kc1, kc2, kc3, kc4, kc5, kc6, kc7, kc8, kc9, kc10, kx0, kx1, kx2, kx3, kx4, kx5, kx6, kx7, kx8, kr0_0, kr0_1, kr0_2, kr0_3, kr0_4, kr0_5, kr0_6, kr0_7, kr0_8, kr0_9, kr1_1, kr1_2, kr1_3, kr1_4, kr1_5, kr7_6, kr7_7, kr7_8, kr7_9, kr7_10, kr7_11, kr7_12, kr7_13, kr7_14, kr7_15, kr7_16, kr16_1, kr16_2, kr19_1, kr19_2, kr22_1, kr22_2, kr25_6, kr25_7, kr25_8, kr25_9, kr25_10, kr25_11, kr25_12, kr25_13, kr25_14, kr25_15, kr25_16, kr34_1, kr34_2, kr37_1, kr37_2, kr40_1, kr40_2, kr43_2, kr43_3, kr44_0, kr44_1, kr44_4, kr46_0, kr48_0, kr50_0, kr52_0, kr54_0, kr56_0, kr60_3, kr60_4, kr63_0, kr63_1, kr63_2, kr66_0, kr66_1, kr66_2, kr66_3, kr66_4, kr67_0, kr70_0, kr70_1, kr70_2, kr72_1, kr72_2, kr72_3, kr72_4, kr72_5, kr72_6, kr72_7, kl2, kl3, kl4, kl5, kl6, kl8, kl9, kl10, kl11, kl12, kl13, kl14, kl15, kl17, kl18, kl20, kl21, kl23, kl24, kl26, kl27, kl28, kl29, kl30, kl31, kl32, kl33, kl35, kl36, kl38, kl39, kl41, kl42, kl45, kl47, kl49, kl51, kl53, kl55, kl57, kl58, kl59, kl61, kl62, kl64, kl65, kl68, kl69, kl71, kl73, kl74, kl75, kl76, kC_door hA h hd, kC_pt hp, kz_rf45, kz_rfK, kz_lnK, (kC_fa h hd).1 p hp, h0, a1]
          · have b2 : kp_ch (fun r => r = 46 + 2 * d + 1) τ (kf_wi τ (46 + 2 * d + 1) p 0) := kp_ch.wi (S := fun r => r = 46 + 2 * d + 1) kp_ch.rf rfl
            have cc : kp_ch kp_yC σ (kf_wi τ (46 + 2 * d + 1) p 0) := (a2.mono (fun r e => by unfold kp_yC; omega)).tr (b2.mono (fun r e => by unfold kp_yC kp_xC; omega))
            refine kC_did h cc ?_ ?_ ?_
            · rw [b2.1 60 (by omega)]; exact a3
            · exact a4.ch (b2.1 60 (by omega)) (b2.1 61 (by omega))
            · exact a6.set h6 hd (fun r e => b2.1 r (by omega)) b3
        · obtain ⟨lv, τ, e, c', hm, hm', hs, -⟩ := kM_co hA h
          have b3 : kp_fS ((kf_wi τ 112 (4 * d + p) 0).1 112) (fun x => if x = d then kp_fl ((ka_S A).1 d) p else (ka_S A).1 x, (ka_S A).2) := by
            refine hs.set (show d < 6 by omega) (fun j hj hc => ?_) ?_
            · exact kp_wi_col (fun e => hc (by unfold kp_cell; omega)) 112
            · obtain ⟨f0, f1, f2, f3, f4, f5⟩ := kp_fD_f (hs.1 d (by omega))
              refine kp_fD_mk (fun q hq => ?_) ?_ ?_ ?_ ?_ ?_
              · by_cases b : q = p
                · rw [if_pos b, b, kp_wi_same]
                · rw [if_neg b, kp_wi_col (by omega)]; exact f0 q hq
              · rw [kp_wi_col (by omega)]; exact f1
              · rw [kp_wi_col (by omega)]; exact f2
              · rw [kp_wi_col (by omega)]; exact f3
              · rw [kp_wi_col (by omega)]; exact f4
              · rw [kp_wi_col (by omega)]; exact f5
          obtain ⟨σ', r1, r2, r3, -⟩ := kM_did h (kp_chM.wi (S := kp_xM) (k := 112) (j := 4 * d + p) (v := 0) c' (by unfold kp_xM; omega) (by decide)) b3
          refine ⟨σ', ?_, r2, r3⟩
          unfold f_X12_file
          simp (disch := omega) only [↓reduceIte, kz_lt, Option.bind_some, kz_ix, kz_leT, kz_leF, kz_ltT, kz_ltF, kz_lt0, kz_0le, kz_0ltT, kz_le0F, kz_eq0F, kz_10, kz_00, kz_11, kz_01, nI_clamp, nI_1, nI_add, pk_mul, kc0, kc1, kc2, kc3, kc4, kc5, kc6, kc7, kc8, kc9, kc10, kx0, kx1, kx2, kx3, kx4, kx5, kx6, kx7, kx8, kr77_1, kr77_3, kr77_5, kr77_6, kr77_7, kr77_8, kr77_9, kr77_21, kr77_22, kr77_23, kr77_24, kr77_25, kr77_26, kr77_27, kr77_28, kr77_29, kr77_30, kr77_31, kr77_32, kr77_33, kr77_34, kr77_35, kr77_36, kr77_38, kr77_39, kr77_40, kr77_41, kr77_42, kr77_44, kr77_45, kr77_46, kr77_48, kr77_49, kr77_51, kr77_52, kr77_55, kr77_57, kr77_58, kr77_59, kr77_61, kr77_62, kr77_63, kr77_64, kr77_65, kl78, kl79, kl80, kl81, kl82, kl83, kl84, kl85, kl86, kl87, kl88, kl89, kl90, kl91, kl92, kl93, kl94, kl95, kl96, kl97, kl98, kl99, kl100, kl101, kl102, kl103, kl104, kl105, kl106, kl107, kl108, kl109, kl110, kl111, kl112, kl113, kl114, kl115, kl116, kl117, kl118, kl119, kl120, kl121, kM_door hA.1 hm hd, kM_pt hp, kp_n4, (kp_fD_f (h.2.1.1 d (by omega))).1 p hp, h0, e, r1]
    · refine kp_qq.op hA (kp_qq.st 0 (fun σ h => ?_) (fun σ h => ?_))
      · unfold f_X11_file
        simp (disch := omega) only [↓reduceIte, kz_lt, Option.bind_some, kz_ix, kz_leT, kz_leF, kz_ltT, kz_ltF, kz_lt0, kz_0le, kz_0ltT, kz_le0F, kz_eq0F, kz_10, kz_00, kz_11, kz_01, nI_clamp, nI_1, nI_add, pk_mul, kc0, kc1, kc2, kc3, kc4, kc5, kc6, kc7, kc8, kc9, kc10, kx0, kx1, kx2, kx3, kx4, kx5, kx6, kx7, kx8, kr0_0, kr0_1, kr0_2, kr0_3, kr0_4, kr0_5, kr0_6, kr0_7, kr0_8, kr0_9, kr1_1, kr1_2, kr1_3, kr1_4, kr1_5, kr7_6, kr7_7, kr7_8, kr7_9, kr7_10, kr7_11, kr7_12, kr7_13, kr7_14, kr7_15, kr7_16, kr16_1, kr16_2, kr19_1, kr19_2, kr22_1, kr22_2, kr25_6, kr25_7, kr25_8, kr25_9, kr25_10, kr25_11, kr25_12, kr25_13, kr25_14, kr25_15, kr25_16, kr34_1, kr34_2, kr37_1, kr37_2, kr40_1, kr40_2, kr43_2, kr43_3, kr44_0, kr44_1, kr44_4, kr46_0, kr48_0, kr50_0, kr52_0, kr54_0, kr56_0, kr60_3, kr60_4, kr63_0, kr63_1, kr63_2, kr66_0, kr66_1, kr66_2, kr66_3, kr66_4, kr67_0, kr70_0, kr70_1, kr70_2, kr72_1, kr72_2, kr72_3, kr72_4, kr72_5, kr72_6, kr72_7, kl2, kl3, kl4, kl5, kl6, kl8, kl9, kl10, kl11, kl12, kl13, kl14, kl15, kl17, kl18, kl20, kl21, kl23, kl24, kl26, kl27, kl28, kl29, kl30, kl31, kl32, kl33, kl35, kl36, kl38, kl39, kl41, kl42, kl45, kl47, kl49, kl51, kl53, kl55, kl57, kl58, kl59, kl61, kl62, kl64, kl65, kl68, kl69, kl71, kl73, kl74, kl75, kl76, kC_door hA h hd, kC_ptF hy]
      · obtain ⟨lv, hm⟩ := h.1
        unfold f_X12_file
        simp (disch := omega) only [↓reduceIte, kz_lt, Option.bind_some, kz_ix, kz_leT, kz_leF, kz_ltT, kz_ltF, kz_lt0, kz_0le, kz_0ltT, kz_le0F, kz_eq0F, kz_10, kz_00, kz_11, kz_01, nI_clamp, nI_1, nI_add, pk_mul, kc0, kc1, kc2, kc3, kc4, kc5, kc6, kc7, kc8, kc9, kc10, kx0, kx1, kx2, kx3, kx4, kx5, kx6, kx7, kx8, kr77_1, kr77_3, kr77_5, kr77_6, kr77_7, kr77_8, kr77_9, kr77_21, kr77_22, kr77_23, kr77_24, kr77_25, kr77_26, kr77_27, kr77_28, kr77_29, kr77_30, kr77_31, kr77_32, kr77_33, kr77_34, kr77_35, kr77_36, kr77_38, kr77_39, kr77_40, kr77_41, kr77_42, kr77_44, kr77_45, kr77_46, kr77_48, kr77_49, kr77_51, kr77_52, kr77_55, kr77_57, kr77_58, kr77_59, kr77_61, kr77_62, kr77_63, kr77_64, kr77_65, kl78, kl79, kl80, kl81, kl82, kl83, kl84, kl85, kl86, kl87, kl88, kl89, kl90, kl91, kl92, kl93, kl94, kl95, kl96, kl97, kl98, kl99, kl100, kl101, kl102, kl103, kl104, kl105, kl106, kl107, kl108, kl109, kl110, kl111, kl112, kl113, kl114, kl115, kl116, kl117, kl118, kl119, kl120, kl121, kM_door hA.1 hm hd, kM_ptF hy]
  · refine kp_qq.op hA (kp_qq.st 0 (fun σ h => ?_) (fun σ h => ?_))
    · unfold f_X11_file
      simp (disch := omega) only [↓reduceIte, kz_lt, Option.bind_some, kz_ix, kz_leT, kz_leF, kz_ltT, kz_ltF, kz_lt0, kz_0le, kz_0ltT, kz_le0F, kz_eq0F, kz_10, kz_00, kz_11, kz_01, nI_clamp, nI_1, nI_add, pk_mul, kc0, kc1, kc2, kc3, kc4, kc5, kc6, kc7, kc8, kc9, kc10, kx0, kx1, kx2, kx3, kx4, kx5, kx6, kx7, kx8, kr0_0, kr0_1, kr0_2, kr0_3, kr0_4, kr0_5, kr0_6, kr0_7, kr0_8, kr0_9, kr1_1, kr1_2, kr1_3, kr1_4, kr1_5, kr7_6, kr7_7, kr7_8, kr7_9, kr7_10, kr7_11, kr7_12, kr7_13, kr7_14, kr7_15, kr7_16, kr16_1, kr16_2, kr19_1, kr19_2, kr22_1, kr22_2, kr25_6, kr25_7, kr25_8, kr25_9, kr25_10, kr25_11, kr25_12, kr25_13, kr25_14, kr25_15, kr25_16, kr34_1, kr34_2, kr37_1, kr37_2, kr40_1, kr40_2, kr43_2, kr43_3, kr44_0, kr44_1, kr44_4, kr46_0, kr48_0, kr50_0, kr52_0, kr54_0, kr56_0, kr60_3, kr60_4, kr63_0, kr63_1, kr63_2, kr66_0, kr66_1, kr66_2, kr66_3, kr66_4, kr67_0, kr70_0, kr70_1, kr70_2, kr72_1, kr72_2, kr72_3, kr72_4, kr72_5, kr72_6, kr72_7, kl2, kl3, kl4, kl5, kl6, kl8, kl9, kl10, kl11, kl12, kl13, kl14, kl15, kl17, kl18, kl20, kl21, kl23, kl24, kl26, kl27, kl28, kl29, kl30, kl31, kl32, kl33, kl35, kl36, kl38, kl39, kl41, kl42, kl45, kl47, kl49, kl51, kl53, kl55, kl57, kl58, kl59, kl61, kl62, kl64, kl65, kl68, kl69, kl71, kl73, kl74, kl75, kl76, kC_doorF hA h hx]
    · obtain ⟨lv, hm⟩ := h.1
      unfold f_X12_file
      simp (disch := omega) only [↓reduceIte, kz_lt, Option.bind_some, kz_ix, kz_leT, kz_leF, kz_ltT, kz_ltF, kz_lt0, kz_0le, kz_0ltT, kz_le0F, kz_eq0F, kz_10, kz_00, kz_11, kz_01, nI_clamp, nI_1, nI_add, pk_mul, kc0, kc1, kc2, kc3, kc4, kc5, kc6, kc7, kc8, kc9, kc10, kx0, kx1, kx2, kx3, kx4, kx5, kx6, kx7, kx8, kr77_1, kr77_3, kr77_5, kr77_6, kr77_7, kr77_8, kr77_9, kr77_21, kr77_22, kr77_23, kr77_24, kr77_25, kr77_26, kr77_27, kr77_28, kr77_29, kr77_30, kr77_31, kr77_32, kr77_33, kr77_34, kr77_35, kr77_36, kr77_38, kr77_39, kr77_40, kr77_41, kr77_42, kr77_44, kr77_45, kr77_46, kr77_48, kr77_49, kr77_51, kr77_52, kr77_55, kr77_57, kr77_58, kr77_59, kr77_61, kr77_62, kr77_63, kr77_64, kr77_65, kl78, kl79, kl80, kl81, kl82, kl83, kl84, kl85, kl86, kl87, kl88, kl89, kl90, kl91, kl92, kl93, kl94, kl95, kl96, kl97, kl98, kl99, kl100, kl101, kl102, kl103, kl104, kl105, kl106, kl107, kl108, kl109, kl110, kl111, kl112, kl113, kl114, kl115, kl116, kl117, kl118, kl119, kl120, kl121, kM_doorF hA.1 hm hx]
