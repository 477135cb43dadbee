/-! ===== pure: save and load, remember, undo, slots ===== -/
def kp_Sok (T : kp_T) (S : kp_S) : Prop := ∀ d, d < kt_nd T → kp_Dok (S.1 d)
theorem kp_save16 {σ : kf_St} {R st nd : Nat} {S : kp_S} (hS : kp_cS σ nd S) (hn : nd ≤ 6) (hz : ∀ d, d < nd → kp_Dok (S.1 d)) (hR : R = 61 ∨ R = 62) (hst : st + 61 ≤ kf_ln R) : ∀ (m d : Nat), d + m = 6 → ∀ fuel, m < fuel → ∀ τ, kp_ch (fun r => r = R) σ τ → (∀ j, j < st ∨ st + 61 ≤ j → τ.1 R j = σ.1 R j) → (∀ x, x < d → x < nd → kp_gD (fun j => τ.1 R (st + j)) x = S.1 x) → ∃ σ', f_X7_save_16 fuel 44 R (nI st) (nI d) τ = some σ' ∧ kp_ch (fun r => r = R) σ σ' ∧ (∀ j, j < st ∨ st + 61 ≤ j → σ'.1 R j = σ.1 R j) ∧ kp_gS (fun j => σ'.1 R (st + j)) nd S := by
  have hR2 : kf_ln R < 2 ^ 30 := by rcases hR with rfl | rfl <;> decide
  intro m
  induction m with
  | zero =>
    intro d hd fuel hf τ h1 h2 h3
    obtain ⟨n, rfl⟩ := kp_fuel (show 0 < fuel by omega)
    obtain rfl : d = 6 := by omega
    show ∃ σ', f_X7_save_16_s _ 44 R (nI st) (nI 6) τ = some σ' ∧ _
    unfold f_X7_save_16_s
    simp (disch := omega) only [↓reduceIte, kz_lt, Option.bind_some, kz_ix, kz_leT, kz_leF, kz_ltT, kz_ltF, kz_lt0, kz_0le, kz_0ltT, kz_le0F, kz_eq0F, kz_10, kz_00, kz_11, kz_01, nI_clamp, nI_1, nI_add, pk_mul, kn2, kn3, kn4, kn5, kn6, kn7, kn8, kn9, kn10, kn16, kn20, kn24, kn30, kn32, kn36, kn40, kn41, kn42, kn48, kn54, kn60, kn61, kn64, kn69, kn70, kn99, kn100, kc0, kc1, kc2, kc3, kc4, kc5, kc6, kc7, kc8, kc9, kc10, kx0, kx1, kx2, kx3, kx4, kx5, kx6, kx7, kx8, kr0_0, kr0_1, kr0_2, kr0_3, kr0_4, kr0_5, kr0_6, kr0_7, kr0_8, kr0_9, kr1_1, kr1_2, kr1_3, kr1_4, kr1_5, kr7_6, kr7_7, kr7_8, kr7_9, kr7_10, kr7_11, kr7_12, kr7_13, kr7_14, kr7_15, kr7_16, kr16_1, kr16_2, kr19_1, kr19_2, kr22_1, kr22_2, kr25_6, kr25_7, kr25_8, kr25_9, kr25_10, kr25_11, kr25_12, kr25_13, kr25_14, kr25_15, kr25_16, kr34_1, kr34_2, kr37_1, kr37_2, kr40_1, kr40_2, kr43_2, kr43_3, kr44_0, kr44_1, kr44_4, kr46_0, kr48_0, kr50_0, kr52_0, kr54_0, kr56_0, kr60_3, kr60_4, kr63_0, kr63_1, kr63_2, kr66_0, kr66_1, kr66_2, kr66_3, kr66_4, kr67_0, kr70_0, kr70_1, kr70_2, kr72_1, kr72_2, kr72_3, kr72_4, kr72_5, kr72_6, kr72_7, kl2, kl3, kl4, kl5, kl6, kl8, kl9, kl10, kl11, kl12, kl13, kl14, kl15, kl17, kl18, kl20, kl21, kl23, kl24, kl26, kl27, kl28, kl29, kl30, kl31, kl32, kl33, kl35, kl36, kl38, kl39, kl41, kl42, kl45, kl47, kl49, kl51, kl53, kl55, kl57, kl58, kl59, kl61, kl62, kl64, kl65, kl68, kl69, kl71, kl73, kl74, kl75, kl76, kz_cok0, kp_ci_row (show 44 ≠ R by omega), kz_row (show 44 ≠ R by omega), h1.1 44 (by omega), hS.2.2.1, hS.2.2.2]
    have h0 : kp_ch (fun r => r = R) σ (kf_ci τ 58 R 0 (st + 54) 5) := kp_ch.ci (S := fun r => r = R) h1 rfl
    refine ⟨_, rfl, kp_ch.wi (S := fun r => r = R) (kp_ch.wi (S := fun r => r = R) h0 rfl) rfl, fun j hj => ?_, fun x hx => ?_, fun c hc => ?_, ?_, ?_⟩
    · simp (disch := omega) only [↓reduceIte, kz_lt, Option.bind_some, kz_ix, kz_leT, kz_leF, kz_ltT, kz_ltF, kz_lt0, kz_0le, kz_0ltT, kz_le0F, kz_eq0F, kz_10, kz_00, kz_11, kz_01, nI_clamp, nI_1, nI_add, pk_mul, kz_col, kz_ci_out]
      exact h2 j hj
    · rw [← h3 x (by omega) hx]
      refine kp_gD_eq (fun j a b => ?_)
      simp (disch := omega) only [↓reduceIte, kz_lt, Option.bind_some, kz_ix, kz_leT, kz_leF, kz_ltT, kz_ltF, kz_lt0, kz_0le, kz_0ltT, kz_le0F, kz_eq0F, kz_10, kz_00, kz_11, kz_01, nI_clamp, nI_1, nI_add, pk_mul, kz_col, kz_ci_out]
    · simp (disch := omega) only [↓reduceIte, kz_lt, Option.bind_some, kz_ix, kz_leT, kz_leF, kz_ltT, kz_ltF, kz_lt0, kz_0le, kz_0ltT, kz_le0F, kz_eq0F, kz_10, kz_00, kz_11, kz_01, nI_clamp, nI_1, nI_add, pk_mul, kz_col, kz_ci_in]
      rw [show 0 + (st + (54 + c) - (st + 54)) = c by omega, h1.1 58 (by omega)]
      exact hS.2.1 c hc
    · simp (disch := omega) only [↓reduceIte, kz_lt, Option.bind_some, kz_ix, kz_leT, kz_leF, kz_ltT, kz_ltF, kz_lt0, kz_0le, kz_0ltT, kz_le0F, kz_eq0F, kz_10, kz_00, kz_11, kz_01, nI_clamp, nI_1, nI_add, pk_mul, kz_col, kz_same']
    · simp (disch := omega) only [↓reduceIte, kz_lt, Option.bind_some, kz_ix, kz_leT, kz_leF, kz_ltT, kz_ltF, kz_lt0, kz_0le, kz_0ltT, kz_le0F, kz_eq0F, kz_10, kz_00, kz_11, kz_01, nI_clamp, nI_1, nI_add, pk_mul, kz_same']
  | succ m ih =>
    intro d hd fuel hf τ h1 h2 h3
    obtain ⟨n, rfl⟩ := kp_fuel (show 0 < fuel by omega)
    show ∃ σ', f_X7_save_16_s _ 44 R (nI st) (nI d) τ = some σ' ∧ _
    have hd6 : d < 6 := by omega
    obtain ⟨τ1, a1, a2, a3, a4, a5, a6, a7, a8, a9⟩ := kp_save1 (σ := τ) (st := st + d * 9) (kp_isK_d hd6) (by omega) hR (by omega)
    unfold f_X7_save_16_s
    simp (disch := omega) only [↓reduceIte, kz_lt, Option.bind_some, kz_ix, kz_leT, kz_leF, kz_ltT, kz_ltF, kz_lt0, kz_0le, kz_0ltT, kz_le0F, kz_eq0F, kz_10, kz_00, kz_11, kz_01, nI_clamp, nI_1, nI_add, pk_mul, kn2, kn3, kn4, kn5, kn6, kn7, kn8, kn9, kn10, kn16, kn20, kn24, kn30, kn32, kn36, kn40, kn41, kn42, kn48, kn54, kn60, kn61, kn64, kn69, kn70, kn99, kn100, kc0, kc1, kc2, kc3, kc4, kc5, kc6, kc7, kc8, kc9, kc10, kx0, kx1, kx2, kx3, kx4, kx5, kx6, kx7, kx8, kr0_0, kr0_1, kr0_2, kr0_3, kr0_4, kr0_5, kr0_6, kr0_7, kr0_8, kr0_9, kr1_1, kr1_2, kr1_3, kr1_4, kr1_5, kr7_6, kr7_7, kr7_8, kr7_9, kr7_10, kr7_11, kr7_12, kr7_13, kr7_14, kr7_15, kr7_16, kr16_1, kr16_2, kr19_1, kr19_2, kr22_1, kr22_2, kr25_6, kr25_7, kr25_8, kr25_9, kr25_10, kr25_11, kr25_12, kr25_13, kr25_14, kr25_15, kr25_16, kr34_1, kr34_2, kr37_1, kr37_2, kr40_1, kr40_2, kr43_2, kr43_3, kr44_0, kr44_1, kr44_4, kr46_0, kr48_0, kr50_0, kr52_0, kr54_0, kr56_0, kr60_3, kr60_4, kr63_0, kr63_1, kr63_2, kr66_0, kr66_1, kr66_2, kr66_3, kr66_4, kr67_0, kr70_0, kr70_1, kr70_2, kr72_1, kr72_2, kr72_3, kr72_4, kr72_5, kr72_6, kr72_7, kl2, kl3, kl4, kl5, kl6, kl8, kl9, kl10, kl11, kl12, kl13, kl14, kl15, kl17, kl18, kl20, kl21, kl23, kl24, kl26, kl27, kl28, kl29, kl30, kl31, kl32, kl33, kl35, kl36, kl38, kl39, kl41, kl42, kl45, kl47, kl49, kl51, kl53, kl55, kl57, kl58, kl59, kl61, kl62, kl64, kl65, kl68, kl69, kl71, kl73, kl74, kl75, kl76, kz_rf45, a1]
    refine ih (d + 1) (by omega) n (by omega) τ1 (h1.tr a2) (fun j hj => by rw [a3 j (by omega)]; exact h2 j hj) (fun x hx hxn => ?_)
    by_cases b : x = d
    · subst b
      have eD : kp_cD τ (46 + 2 * x) = S.1 x := by rw [← hS.1 x hxn]; exact kp_cD_eq (h1.1 _ (by omega)) (h1.1 _ (by omega))
      obtain ⟨f0, f1, f2, f3, f4, f5⟩ := kp_cD_f eD
      refine kp_gD_mk (fun q hq => ?_) (kp_cD_cut' eD) ?_ ?_ ?_ ?_ ?_
      · show τ1.1 R (st + (x * 9 + q)) = _
        rw [← Nat.add_assoc, a4 q hq, f0 q hq]
      · show τ1.1 R (st + (x * 9 + 4)) = _
        rw [← Nat.add_assoc, a5, f1]
      · show τ1.1 R (st + (x * 9 + 5)) = _
        rw [← Nat.add_assoc, a6, f2]
      · show τ1.1 R (st + (x * 9 + 6)) = _
        rw [← Nat.add_assoc, a7, f3]
      · show τ1.1 R (st + (x * 9 + 7)) = _
        rw [← Nat.add_assoc, a8, f4]
      · show τ1.1 R (st + (x * 9 + 8)) = _
        rw [← Nat.add_assoc, a9 (by rw [f5]; exact (hz x hxn).2.2.2), f5]
    · rw [← h3 x (by omega) hxn]
      exact kp_gD_eq (fun j a b => a3 _ (by omega))
theorem kp_save {σ : kf_St} {R st nd : Nat} {S : kp_S} (hS : kp_cS σ nd S) (hn : nd ≤ 6) (hz : ∀ d, d < nd → kp_Dok (S.1 d)) (hR : R = 61 ∨ R = 62) (hst : st + 61 ≤ kf_ln R) : ∃ σ', f_X7_save 44 R (nI st) σ = some σ' ∧ kp_ch (fun r => r = R) σ σ' ∧ (∀ j, j < st ∨ st + 61 ≤ j → σ'.1 R j = σ.1 R j) ∧ kp_gS (fun j => σ'.1 R (st + j)) nd S := by
  have hR2 : kf_ln R < 2 ^ 30 := by rcases hR with rfl | rfl <;> decide
  have e61 : nI (kf_ln R) - 61 = nI (kf_ln R - 61) := pk_sub (b := 61) (by omega)
  unfold f_X7_save
  rw [e61]
  simp (disch := omega) only [↓reduceIte, kz_lt, Option.bind_some, kz_ix, kz_leT, kz_leF, kz_ltT, kz_ltF, kz_lt0, kz_0le, kz_0ltT, kz_le0F, kz_eq0F, kz_10, kz_00, kz_11, kz_01, nI_clamp, nI_1, nI_add, pk_mul]
  exact kp_save16 hS hn hz hR hst 6 0 rfl kf_F (kf_F_gt (by decide)) σ kp_ch.rf (fun _ _ => rfl) (fun x hx => absurd hx (Nat.not_lt_zero x))
def kp_rK (r : Nat) : Prop := r = 44 ∨ 46 ≤ r ∧ r ≤ 58
theorem kp_load16 {σ : kf_St} {R st nd : Nat} {S : kp_S} (hn : nd ≤ 6) (hz : ∀ d, d < nd → kp_Dok (S.1 d)) (hR : R = 61 ∨ R = 62) (hst : st + 61 ≤ kf_ln R) (hg : kp_gS (fun j => σ.1 R (st + j)) nd S) : ∀ (m d : Nat), d + m = 6 → ∀ fuel, m < fuel → ∀ τ, kp_ch (fun r => r = 44 ∨ 46 ≤ r ∧ r ≤ 58) σ τ → (∀ x, x < d → x < nd → kp_cD τ (46 + 2 * x) = S.1 x) → ∃ σ', f_X7_load_16 fuel 44 R (nI st) (nI d) τ = some σ' ∧ kp_ch (fun r => r = 44 ∨ 46 ≤ r ∧ r ≤ 58) σ σ' ∧ kp_cS σ' nd S := by
  have hR2 : kf_ln R < 2 ^ 30 := by rcases hR with rfl | rfl <;> decide
  obtain ⟨g1, g2, g3, g4⟩ := hg
  intro m
  induction m with
  | zero =>
    intro d hd fuel hf τ h1 h3
    obtain ⟨n, rfl⟩ := kp_fuel (show 0 < fuel by omega)
    obtain rfl : d = 6 := by omega
    show ∃ σ', f_X7_load_16_s _ 44 R (nI st) (nI 6) τ = some σ' ∧ _
    unfold f_X7_load_16_s
    simp (disch := omega) only [↓reduceIte, kz_lt, Option.bind_some, kz_ix, kz_leT, kz_leF, kz_ltT, kz_ltF, kz_lt0, kz_0le, kz_0ltT, kz_le0F, kz_eq0F, kz_10, kz_00, kz_11, kz_01, nI_clamp, nI_1, nI_add, pk_mul, kn2, kn3, kn4, kn5, kn6, kn7, kn8, kn9, kn10, kn16, kn20, kn24, kn30, kn32, kn36, kn40, kn41, kn42, kn48, kn54, kn60, kn61, kn64, kn69, kn70, kn99, kn100, kc0, kc1, kc2, kc3, kc4, kc5, kc6, kc7, kc8, kc9, kc10, kx0, kx1, kx2, kx3, kx4, kx5, kx6, kx7, kx8, kr0_0, kr0_1, kr0_2, kr0_3, kr0_4, kr0_5, kr0_6, kr0_7, kr0_8, kr0_9, kr1_1, kr1_2, kr1_3, kr1_4, kr1_5, kr7_6, kr7_7, kr7_8, kr7_9, kr7_10, kr7_11, kr7_12, kr7_13, kr7_14, kr7_15, kr7_16, kr16_1, kr16_2, kr19_1, kr19_2, kr22_1, kr22_2, kr25_6, kr25_7, kr25_8, kr25_9, kr25_10, kr25_11, kr25_12, kr25_13, kr25_14, kr25_15, kr25_16, kr34_1, kr34_2, kr37_1, kr37_2, kr40_1, kr40_2, kr43_2, kr43_3, kr44_0, kr44_1, kr44_4, kr46_0, kr48_0, kr50_0, kr52_0, kr54_0, kr56_0, kr60_3, kr60_4, kr63_0, kr63_1, kr63_2, kr66_0, kr66_1, kr66_2, kr66_3, kr66_4, kr67_0, kr70_0, kr70_1, kr70_2, kr72_1, kr72_2, kr72_3, kr72_4, kr72_5, kr72_6, kr72_7, kl2, kl3, kl4, kl5, kl6, kl8, kl9, kl10, kl11, kl12, kl13, kl14, kl15, kl17, kl18, kl20, kl21, kl23, kl24, kl26, kl27, kl28, kl29, kl30, kl31, kl32, kl33, kl35, kl36, kl38, kl39, kl41, kl42, kl45, kl47, kl49, kl51, kl53, kl55, kl57, kl58, kl59, kl61, kl62, kl64, kl65, kl68, kl69, kl71, kl73, kl74, kl75, kl76, kz_cok1, kp_ci_row (show R ≠ 58 by omega), kz_row (show R ≠ 44 by omega), h1.1 R (by omega)]
    have h0 : kp_ch (fun r => r = 44 ∨ 46 ≤ r ∧ r ≤ 58) σ (kf_ci τ R 58 (st + 54) 0 5) := kp_ch.ci (S := fun r => r = 44 ∨ 46 ≤ r ∧ r ≤ 58) h1 (by omega)
    refine ⟨_, rfl, kp_ch.wi (S := fun r => r = 44 ∨ 46 ≤ r ∧ r ≤ 58) (kp_ch.wi (S := fun r => r = 44 ∨ 46 ≤ r ∧ r ≤ 58) h0 (by omega)) (by omega), fun x hx => ?_, fun c hc => ?_, ?_, ?_⟩
    · rw [← h3 x (by omega) hx]
      refine kp_cD_eq ?_ ?_
      · rw [kz_rowf (by omega), kz_rowf (by omega), kp_ci_row (by omega)]
      · rw [kz_rowf (by omega), kz_rowf (by omega), kp_ci_row (by omega)]
    · simp (disch := omega) only [↓reduceIte, kz_lt, Option.bind_some, kz_ix, kz_leT, kz_leF, kz_ltT, kz_ltF, kz_lt0, kz_0le, kz_0ltT, kz_le0F, kz_eq0F, kz_10, kz_00, kz_11, kz_01, nI_clamp, nI_1, nI_add, pk_mul, kz_row, kz_ci_in]
      rw [h1.1 R (by omega), ← g2 c hc]
      show _ = σ.1 R (st + (54 + c))
      rw [show st + 54 + (c - 0) = st + (54 + c) by omega]
    · rw [kp_wi_col (by decide), kp_wi_same]; exact g3
    · rw [kp_wi_same]; exact g4
  | succ m ih =>
    intro d hd fuel hf τ h1 h3
    obtain ⟨n, rfl⟩ := kp_fuel (show 0 < fuel by omega)
    show ∃ σ', f_X7_load_16_s _ 44 R (nI st) (nI d) τ = some σ' ∧ _
    have hd6 : d < 6 := by omega
    obtain ⟨τ1, a1, a2, a4, a5, a6, a7, a8, a9⟩ := kp_load1 (σ := τ) (st := st + d * 9) (kp_isK_d hd6) (by omega) hR (by omega)
    unfold f_X7_load_16_s
    simp (disch := omega) only [↓reduceIte, kz_lt, Option.bind_some, kz_ix, kz_leT, kz_leF, kz_ltT, kz_ltF, kz_lt0, kz_0le, kz_0ltT, kz_le0F, kz_eq0F, kz_10, kz_00, kz_11, kz_01, nI_clamp, nI_1, nI_add, pk_mul, kn2, kn3, kn4, kn5, kn6, kn7, kn8, kn9, kn10, kn16, kn20, kn24, kn30, kn32, kn36, kn40, kn41, kn42, kn48, kn54, kn60, kn61, kn64, kn69, kn70, kn99, kn100, kc0, kc1, kc2, kc3, kc4, kc5, kc6, kc7, kc8, kc9, kc10, kx0, kx1, kx2, kx3, kx4, kx5, kx6, kx7, kx8, kr0_0, kr0_1, kr0_2, kr0_3, kr0_4, kr0_5, kr0_6, kr0_7, kr0_8, kr0_9, kr1_1, kr1_2, kr1_3, kr1_4, kr1_5, kr7_6, kr7_7, kr7_8, kr7_9, kr7_10, kr7_11, kr7_12, kr7_13, kr7_14, kr7_15, kr7_16, kr16_1, kr16_2, kr19_1, kr19_2, kr22_1, kr22_2, kr25_6, kr25_7, kr25_8, kr25_9, kr25_10, kr25_11, kr25_12, kr25_13, kr25_14, kr25_15, kr25_16, kr34_1, kr34_2, kr37_1, kr37_2, kr40_1, kr40_2, kr43_2, kr43_3, kr44_0, kr44_1, kr44_4, kr46_0, kr48_0, kr50_0, kr52_0, kr54_0, kr56_0, kr60_3, kr60_4, kr63_0, kr63_1, kr63_2, kr66_0, kr66_1, kr66_2, kr66_3, kr66_4, kr67_0, kr70_0, kr70_1, kr70_2, kr72_1, kr72_2, kr72_3, kr72_4, kr72_5, kr72_6, kr72_7, kl2, kl3, kl4, kl5, kl6, kl8, kl9, kl10, kl11, kl12, kl13, kl14, kl15, kl17, kl18, kl20, kl21, kl23, kl24, kl26, kl27, kl28, kl29, kl30, kl31, kl32, kl33, kl35, kl36, kl38, kl39, kl41, kl42, kl45, kl47, kl49, kl51, kl53, kl55, kl57, kl58, kl59, kl61, kl62, kl64, kl65, kl68, kl69, kl71, kl73, kl74, kl75, kl76, kz_rf45, a1]
    refine ih (d + 1) (by omega) n (by omega) τ1 (h1.tr (a2.mono (fun r h => by omega))) (fun x hx hxn => ?_)
    by_cases b : x = d
    · subst b
      have eR : τ.1 R = σ.1 R := h1.1 R (by omega)
      rw [eR] at a4 a5 a6 a7 a8 a9
      obtain ⟨f0, f1, f2, f3, f4, f5⟩ := kp_gD_f (g1 x hxn)
      rw [Nat.add_assoc] at a5 a6 a7 a8 a9
      refine (kp_cD_mk (f := (S.1 x).1) (fun q hq => ?_) (a5.trans f1) (a6.trans f2) (a7.trans f3) (a8.trans f4) ((a9 (by rw [f5]; exact (hz x hxn).2.2.2)).trans f5)).trans ?_
      · rw [a4 q hq, Nat.add_assoc, f0 q hq]
      · rw [kp_gD_cut (g1 x hxn)]
    · rw [← h3 x (by omega) hxn]
      exact kp_cD_eq (a2.1 _ (by omega)) (a2.1 _ (by omega))
theorem kp_load {σ : kf_St} {R st nd : Nat} {S : kp_S} (hn : nd ≤ 6) (hz : ∀ d, d < nd → kp_Dok (S.1 d)) (hR : R = 61 ∨ R = 62) (hst : st + 61 ≤ kf_ln R) (hg : kp_gS (fun j => σ.1 R (st + j)) nd S) : ∃ σ', f_X7_load 44 R (nI st) σ = some σ' ∧ kp_ch (fun r => r = 44 ∨ 46 ≤ r ∧ r ≤ 58) σ σ' ∧ kp_cS σ' nd S := by
  have hR2 : kf_ln R < 2 ^ 30 := by rcases hR with rfl | rfl <;> decide
  have e61 : nI (kf_ln R) - 61 = nI (kf_ln R - 61) := pk_sub (b := 61) (by omega)
  unfold f_X7_load
  rw [e61]
  simp (disch := omega) only [↓reduceIte, kz_lt, Option.bind_some, kz_ix, kz_leT, kz_leF, kz_ltT, kz_ltF, kz_lt0, kz_0le, kz_0ltT, kz_le0F, kz_eq0F, kz_10, kz_00, kz_11, kz_01, nI_clamp, nI_1, nI_add, pk_mul]
  exact kp_load16 hn hz hR hst hg 6 0 rfl kf_F (kf_F_gt (by decide)) σ kp_ch.rf (fun x hx => absurd hx (Nat.not_lt_zero x))
/-- the ring -/
def kp_HC (σ : kf_St) (nd n : Nat) (H : Nat → kp_S) : Prop := n ≤ 40 ∧ σ.1 60 0 = nI n ∧ ∃ x, x < 40 ∧ σ.1 60 2 = nI x ∧ ∀ i, i < n → kp_gS (fun j => σ.1 61 ((x + 40 - n + i) % 40 * 61 + j)) nd (H i)
theorem kp_remember {σ : kf_St} {nd n : Nat} {H : Nat → kp_S} {S : kp_S} (hS : kp_cS σ nd S) (hn : nd ≤ 6) (hz : ∀ d, d < nd → kp_Dok (S.1 d)) (hH : kp_HC σ nd n H) : ∃ σ', f_X3_remember 60 44 σ = some σ' ∧ kp_ch (fun r => r = 60 ∨ r = 61) σ σ' ∧ σ'.1 60 1 = σ.1 60 1 ∧ kp_HC σ' nd (kp_pn n) (kp_pu n H S) := by
  obtain ⟨h1, h2, x, hx, h3, h4⟩ := hH
  obtain ⟨τ, a1, a2, a3, a4⟩ := kp_save (R := 61) (st := x * 61) hS hn hz (Or.inl rfl) (by show _ ≤ 2440; omega)
  have e2 : τ.1 60 = σ.1 60 := a2.1 60 (by decide)
  unfold f_X3_remember
  simp (disch := omega) only [↓reduceIte, kz_lt, Option.bind_some, kz_ix, kz_leT, kz_leF, kz_ltT, kz_ltF, kz_lt0, kz_0le, kz_0ltT, kz_le0F, kz_eq0F, kz_10, kz_00, kz_11, kz_01, nI_clamp, nI_1, nI_add, pk_mul, kn2, kn3, kn4, kn5, kn6, kn7, kn8, kn9, kn10, kn16, kn20, kn24, kn30, kn32, kn36, kn40, kn41, kn42, kn48, kn54, kn60, kn61, kn64, kn69, kn70, kn99, kn100, kc0, kc1, kc2, kc3, kc4, kc5, kc6, kc7, kc8, kc9, kc10, kx0, kx1, kx2, kx3, kx4, kx5, kx6, kx7, kx8, kr0_0, kr0_1, kr0_2, kr0_3, kr0_4, kr0_5, kr0_6, kr0_7, kr0_8, kr0_9, kr1_1, kr1_2, kr1_3, kr1_4, kr1_5, kr7_6, kr7_7, kr7_8, kr7_9, kr7_10, kr7_11, kr7_12, kr7_13, kr7_14, kr7_15, kr7_16, kr16_1, kr16_2, kr19_1, kr19_2, kr22_1, kr22_2, kr25_6, kr25_7, kr25_8, kr25_9, kr25_10, kr25_11, kr25_12, kr25_13, kr25_14, kr25_15, kr25_16, kr34_1, kr34_2, kr37_1, kr37_2, kr40_1, kr40_2, kr43_2, kr43_3, kr44_0, kr44_1, kr44_4, kr46_0, kr48_0, kr50_0, kr52_0, kr54_0, kr56_0, kr60_3, kr60_4, kr63_0, kr63_1, kr63_2, kr66_0, kr66_1, kr66_2, kr66_3, kr66_4, kr67_0, kr70_0, kr70_1, kr70_2, kr72_1, kr72_2, kr72_3, kr72_4, kr72_5, kr72_6, kr72_7, kl2, kl3, kl4, kl5, kl6, kl8, kl9, kl10, kl11, kl12, kl13, kl14, kl15, kl17, kl18, kl20, kl21, kl23, kl24, kl26, kl27, kl28, kl29, kl30, kl31, kl32, kl33, kl35, kl36, kl38, kl39, kl41, kl42, kl45, kl47, kl49, kl51, kl53, kl55, kl57, kl58, kl59, kl61, kl62, kl64, kl65, kl68, kl69, kl71, kl73, kl74, kl75, kl76, h3, a1, e2, pk_rem, kz_col, h2]
  have c1 : ∀ v w, kp_ch (fun r => r = 60 ∨ r = 61) σ (kf_wi (kf_wi τ 60 2 v) 60 0 w) := fun v w => kp_ch.wi (S := fun r => r = 60 ∨ r = 61) (kp_ch.wi (S := fun r => r = 60 ∨ r = 61) (a2.mono (fun r h => Or.inr h)) (Or.inl rfl)) (Or.inl rfl)
  refine ⟨_, rfl, c1 _ _, by rw [kp_wi_col (by decide), kp_wi_col (by decide), e2], ?_, ?_, (x + 1) % 40, by omega, ?_, fun i hi => ?_⟩
  · unfold kp_pn
    by_cases b : n = 40
    · rw [if_pos b]; omega
    · rw [if_neg b]; omega
  · rw [kp_wi_same]
    unfold kp_pn
    by_cases b : n = 40
    · rw [if_pos b, b]; rfl
    · rw [if_neg b, if_neg (nI_nlt (by omega) (by omega))]
  · rw [kp_wi_col (by decide), kp_wi_same]
  · have er : ∀ j, (kf_wi (kf_wi τ 60 2 (nI ((x + 1) % 40))) 60 0 (if nI 40 < nI (n + 1) then nI 40 else nI (n + 1))).1 61 j = τ.1 61 j := fun j => by rw [kp_wi_row (by decide), kp_wi_row (by decide)]
    simp only [er]
    unfold kp_pu
    unfold kp_pn at hi ⊢
    by_cases b : n = 40
    · subst b
      rw [if_pos rfl] at hi
      simp only [if_true]
      by_cases bi : i < 39
      · rw [if_pos bi]
        refine (h4 (i + 1) (by omega)).ch hn (fun j hj => ?_)
        rw [show ((x + 1) % 40 + 40 - 40 + i) % 40 = (x + 40 - 40 + (i + 1)) % 40 by omega]
        exact a3 _ (by omega)
      · rw [if_neg bi]
        refine a4.ch hn (fun j hj => ?_)
        rw [show ((x + 1) % 40 + 40 - 40 + i) % 40 = x by omega]
    · rw [if_neg b] at hi
      simp only [if_neg b]
      by_cases bi : i < n
      · rw [if_pos bi]
        refine (h4 i bi).ch hn (fun j hj => ?_)
        rw [show ((x + 1) % 40 + 40 - (n + 1) + i) % 40 = (x + 40 - n + i) % 40 by omega]
        exact a3 _ (by omega)
      · rw [if_neg bi]
        refine a4.ch hn (fun j hj => ?_)
        rw [show ((x + 1) % 40 + 40 - (n + 1) + i) % 40 = x by omega]
theorem kp_takeBack {σ : kf_St} {nd n : Nat} {H : Nat → kp_S} {S : kp_S} (hS : kp_cS σ nd S) (hn : nd ≤ 6) (hz : ∀ i, i < n → ∀ d, d < nd → kp_Dok ((H i).1 d)) (hH : kp_HC σ nd n H) : ∃ σ', f_X3_takeBack 60 44 σ = some (if n = 0 then 0 else 1, σ') ∧ kp_ch (fun r => r = 44 ∨ 46 ≤ r ∧ r ≤ 58 ∨ r = 60) σ σ' ∧ σ'.1 60 1 = σ.1 60 1 ∧ kp_HC σ' nd (n - 1) H ∧ kp_cS σ' nd (if n = 0 then S else H (n - 1)) := by
  obtain ⟨h1, h2, x, hx, h3, h4⟩ := hH
  unfold f_X3_takeBack
  cases n with
  | zero =>
    rw [h2, if_pos (show nI 0 = 0 from rfl), if_pos rfl, if_pos rfl]
    exact ⟨σ, rfl, kp_ch.rf, rfl, ⟨h1, h2, x, hx, h3, h4⟩, hS⟩
  | succ u =>
    have e39 : nI (x + 40) - 1 = nI (x + 39) := pk_sub (b := 1) (by omega)
    have em : (x + 40 - (u + 1) + u) % 40 = (x + 39) % 40 := by omega
    have g := h4 u (by omega)
    rw [em] at g
    obtain ⟨σ', a1, a2, a3⟩ := kp_load (σ := kf_wi (kf_wi σ 60 2 (nI ((x + 39) % 40))) 60 0 (nI u)) (R := 61) (st := (x + 39) % 40 * 61) hn (hz u (by omega)) (Or.inl rfl) (by show _ ≤ 2440; omega) (by
      refine g.ch hn (fun j hj => ?_)
      rw [kp_wi_row (by decide), kp_wi_row (by decide)])
    simp (disch := omega) only [↓reduceIte, kz_lt, Option.bind_some, kz_ix, kz_leT, kz_leF, kz_ltT, kz_ltF, kz_lt0, kz_0le, kz_0ltT, kz_le0F, kz_eq0F, kz_10, kz_00, kz_11, kz_01, nI_clamp, nI_1, nI_add, pk_mul, kn2, kn3, kn4, kn5, kn6, kn7, kn8, kn9, kn10, kn16, kn20, kn24, kn30, kn32, kn36, kn40, kn41, kn42, kn48, kn54, kn60, kn61, kn64, kn69, kn70, kn99, kn100, kc0, kc1, kc2, kc3, kc4, kc5, kc6, kc7, kc8, kc9, kc10, kx0, kx1, kx2, kx3, kx4, kx5, kx6, kx7, kx8, kr0_0, kr0_1, kr0_2, kr0_3, kr0_4, kr0_5, kr0_6, kr0_7, kr0_8, kr0_9, kr1_1, kr1_2, kr1_3, kr1_4, kr1_5, kr7_6, kr7_7, kr7_8, kr7_9, kr7_10, kr7_11, kr7_12, kr7_13, kr7_14, kr7_15, kr7_16, kr16_1, kr16_2, kr19_1, kr19_2, kr22_1, kr22_2, kr25_6, kr25_7, kr25_8, kr25_9, kr25_10, kr25_11, kr25_12, kr25_13, kr25_14, kr25_15, kr25_16, kr34_1, kr34_2, kr37_1, kr37_2, kr40_1, kr40_2, kr43_2, kr43_3, kr44_0, kr44_1, kr44_4, kr46_0, kr48_0, kr50_0, kr52_0, kr54_0, kr56_0, kr60_3, kr60_4, kr63_0, kr63_1, kr63_2, kr66_0, kr66_1, kr66_2, kr66_3, kr66_4, kr67_0, kr70_0, kr70_1, kr70_2, kr72_1, kr72_2, kr72_3, kr72_4, kr72_5, kr72_6, kr72_7, kl2, kl3, kl4, kl5, kl6, kl8, kl9, kl10, kl11, kl12, kl13, kl14, kl15, kl17, kl18, kl20, kl21, kl23, kl24, kl26, kl27, kl28, kl29, kl30, kl31, kl32, kl33, kl35, kl36, kl38, kl39, kl41, kl42, kl45, kl47, kl49, kl51, kl53, kl55, kl57, kl58, kl59, kl61, kl62, kl64, kl65, kl68, kl69, kl71, kl73, kl74, kl75, kl76, h2, h3, e39, pk_rem, kz_col, nI_pred, a1, kz_same']
    have e60 : σ'.1 60 = (kf_wi (kf_wi σ 60 2 (nI ((x + 39) % 40))) 60 0 (nI u)).1 60 := a2.1 60 (by decide)
    have e61 : σ'.1 61 = (kf_wi (kf_wi σ 60 2 (nI ((x + 39) % 40))) 60 0 (nI u)).1 61 := a2.1 61 (by decide)
    rw [if_neg (by omega), if_neg (by omega)]
    refine ⟨σ', rfl, ?_, by rw [e60, kp_wi_col (by decide), kp_wi_col (by decide)], ⟨by omega, by rw [e60, kp_wi_same]; rfl, (x + 39) % 40, by omega, by rw [e60, kp_wi_col (by decide), kp_wi_same], fun i hi => ?_⟩, a3⟩
    · exact (kp_ch.wi (S := fun r => r = 44 ∨ 46 ≤ r ∧ r ≤ 58 ∨ r = 60) (kp_ch.wi (S := fun r => r = 44 ∨ 46 ≤ r ∧ r ≤ 58 ∨ r = 60) kp_ch.rf (by omega)) (by omega)).tr (a2.mono (fun r h => by omega))
    · refine (h4 i (by omega)).ch hn (fun j hj => ?_)
      rw [e61, kp_wi_row (by decide), kp_wi_row (by decide), show ((x + 39) % 40 + 40 - (u + 1 - 1) + i) % 40 = (x + 40 - (u + 1) + i) % 40 by omega]
/-! slots -/
def kp_QM (σ : kf_St) (Q : Nat → Option kp_S) : Prop := ∀ s, s < 3 → (Q s = none ∧ σ.1 120 s = 0) ∨ (∃ S, Q s = some S ∧ σ.1 120 s = 1 ∧ kp_fS (fun k => σ.1 121 (70 * s + k)) S)
def kp_QC (σ : kf_St) (nd : Nat) (Q : Nat → Option kp_S) : Prop := ∃ b, b < 8 ∧ σ.1 60 1 = nI b ∧ ∀ s, s < 3 → (Q s = none ∧ kp_bt b s = 0) ∨ (∃ S, Q s = some S ∧ kp_bt b s = 1 ∧ kp_gS (fun j => σ.1 62 (s * 61 + j)) nd S)
def kp_sl (Q : Nat → Option kp_S) (s : Nat) (S : kp_S) : Nat → Option kp_S := fun i => if i = s then some S else Q i
theorem kp_orb : ∀ b, b < 8 → ∀ s, s < 3 → ∃ c, c < 8 ∧ nI b ||| ((1 : Int32) <<< (nI s &&& 31)) = nI c ∧ kp_bt c s = 1 ∧ ∀ i, i < 3 → i ≠ s → kp_bt c i = kp_bt b i := by
  intro b hb s hs
  refine ⟨(nI b ||| ((1 : Int32) <<< (nI s &&& 31))).toNatClampNeg, ?_⟩
  revert s
  revert b
  decide
theorem kp_putInSlot {σ : kf_St} {nd s : Nat} {Q : Nat → Option kp_S} {S : kp_S} (hS : kp_cS σ nd S) (hn : nd ≤ 6) (hz : ∀ d, d < nd → kp_Dok (S.1 d)) (hs : s < 3) (hQ : kp_QC σ nd Q) : ∃ σ', f_X3_putInSlot 60 (nI s) 44 σ = some σ' ∧ kp_ch (fun r => r = 60 ∨ r = 62) σ σ' ∧ σ'.1 60 0 = σ.1 60 0 ∧ σ'.1 60 2 = σ.1 60 2 ∧ kp_QC σ' nd (kp_sl Q s S) := by
  obtain ⟨b, hb, h1, h2⟩ := hQ
  obtain ⟨τ, a1, a2, a3, a4⟩ := kp_save (R := 62) (st := s * 61) hS hn hz (Or.inr rfl) (by show _ ≤ 183; omega)
  have e2 : τ.1 60 = σ.1 60 := a2.1 60 (by decide)
  obtain ⟨c, hc, c1, c2, c3⟩ := kp_orb b hb s hs
  unfold f_X3_putInSlot
  simp (disch := omega) only [↓reduceIte, kz_lt, Option.bind_some, kz_ix, kz_leT, kz_leF, kz_ltT, kz_ltF, kz_lt0, kz_0le, kz_0ltT, kz_le0F, kz_eq0F, kz_10, kz_00, kz_11, kz_01, nI_clamp, nI_1, nI_add, pk_mul, kn2, kn3, kn4, kn5, kn6, kn7, kn8, kn9, kn10, kn16, kn20, kn24, kn30, kn32, kn36, kn40, kn41, kn42, kn48, kn54, kn60, kn61, kn64, kn69, kn70, kn99, kn100, kc0, kc1, kc2, kc3, kc4, kc5, kc6, kc7, kc8, kc9, kc10, kx0, kx1, kx2, kx3, kx4, kx5, kx6, kx7, kx8, kr0_0, kr0_1, kr0_2, kr0_3, kr0_4, kr0_5, kr0_6, kr0_7, kr0_8, kr0_9, kr1_1, kr1_2, kr1_3, kr1_4, kr1_5, kr7_6, kr7_7, kr7_8, kr7_9, kr7_10, kr7_11, kr7_12, kr7_13, kr7_14, kr7_15, kr7_16, kr16_1, kr16_2, kr19_1, kr19_2, kr22_1, kr22_2, kr25_6, kr25_7, kr25_8, kr25_9, kr25_10, kr25_11, kr25_12, kr25_13, kr25_14, kr25_15, kr25_16, kr34_1, kr34_2, kr37_1, kr37_2, kr40_1, kr40_2, kr43_2, kr43_3, kr44_0, kr44_1, kr44_4, kr46_0, kr48_0, kr50_0, kr52_0, kr54_0, kr56_0, kr60_3, kr60_4, kr63_0, kr63_1, kr63_2, kr66_0, kr66_1, kr66_2, kr66_3, kr66_4, kr67_0, kr70_0, kr70_1, kr70_2, kr72_1, kr72_2, kr72_3, kr72_4, kr72_5, kr72_6, kr72_7, kl2, kl3, kl4, kl5, kl6, kl8, kl9, kl10, kl11, kl12, kl13, kl14, kl15, kl17, kl18, kl20, kl21, kl23, kl24, kl26, kl27, kl28, kl29, kl30, kl31, kl32, kl33, kl35, kl36, kl38, kl39, kl41, kl42, kl45, kl47, kl49, kl51, kl53, kl55, kl57, kl58, kl59, kl61, kl62, kl64, kl65, kl68, kl69, kl71, kl73, kl74, kl75, kl76, a1, e2, h1, c1]
  refine ⟨_, rfl, kp_ch.wi (S := fun r => r = 60 ∨ r = 62) (a2.mono (fun r h => Or.inr h)) (Or.inl rfl), by rw [kp_wi_col (by decide), e2], by rw [kp_wi_col (by decide), e2], c, hc, kp_wi_same _ _ _ _, fun i hi => ?_⟩
  have er : ∀ j, (kf_wi τ 60 1 (nI c)).1 62 j = τ.1 62 j := fun j => kp_wi_row (by decide) j
  simp only [er]
  unfold kp_sl
  by_cases bi : i = s
  · rw [if_pos bi]
    exact Or.inr ⟨S, rfl, by rw [bi]; exact c2, by rw [bi]; exact a4⟩
  · rw [if_neg bi]
    rcases h2 i hi with ⟨q1, q2⟩ | ⟨S', q1, q2, q3⟩
    · exact Or.inl ⟨q1, by rw [c3 i hi bi]; exact q2⟩
    · exact Or.inr ⟨S', q1, by rw [c3 i hi bi]; exact q2, q3.ch hn (fun j hj => a3 _ (by omega))⟩
theorem kp_takeSlot {σ : kf_St} {nd s : Nat} {Q : Nat → Option kp_S} {S : kp_S} (hS : kp_cS σ nd S) (hn : nd ≤ 6) (hz : ∀ i S, Q i = some S → ∀ d, d < nd → kp_Dok (S.1 d)) (hs : s < 3) (hQ : kp_QC σ nd Q) : ∃ σ', f_X3_takeFromSlot 60 (nI s) 44 σ = some (if (Q s).isNone then 0 else 1, σ') ∧ kp_ch (fun r => r = 44 ∨ 46 ≤ r ∧ r ≤ 58 ∨ r = 60) σ σ' ∧ σ'.1 60 1 = σ.1 60 1 ∧ σ'.1 60 2 = σ.1 60 2 ∧ (Q s = none → σ' = σ) ∧ (∀ Z, Q s = some Z → σ'.1 60 0 = 0 ∧ kp_cS σ' nd Z) := by
  obtain ⟨b, hb, h1, h2⟩ := hQ
  unfold f_X3_takeFromSlot
  rw [h1, kp_bit (by omega) (by omega)]
  rcases h2 s hs with ⟨q1, q2⟩ | ⟨Z, q1, q2, q3⟩
  · rw [q2, if_pos (show nI 0 = 0 from rfl), q1]
    exact ⟨σ, rfl, kp_ch.rf, h1, rfl, fun _ => rfl, fun Z e => by cases e⟩
  · obtain ⟨τ, a1, a2, a3⟩ := kp_load (R := 62) (st := s * 61) hn (hz s Z q1) (Or.inr rfl) (by show _ ≤ 183; omega) q3
    have e2 : τ.1 60 = σ.1 60 := a2.1 60 (by decide)
    rw [q2, if_neg (show ¬ nI 1 = 0 by decide), q1]
    simp (disch := omega) only [↓reduceIte, kz_lt, Option.bind_some, kz_ix, kz_leT, kz_leF, kz_ltT, kz_ltF, kz_lt0, kz_0le, kz_0ltT, kz_le0F, kz_eq0F, kz_10, kz_00, kz_11, kz_01, nI_clamp, nI_1, nI_add, pk_mul, kn2, kn3, kn4, kn5, kn6, kn7, kn8, kn9, kn10, kn16, kn20, kn24, kn30, kn32, kn36, kn40, kn41, kn42, kn48, kn54, kn60, kn61, kn64, kn69, kn70, kn99, kn100, kc0, kc1, kc2, kc3, kc4, kc5, kc6, kc7, kc8, kc9, kc10, kx0, kx1, kx2, kx3, kx4, kx5, kx6, kx7, kx8, kr0_0, kr0_1, kr0_2, kr0_3, kr0_4, kr0_5, kr0_6, kr0_7, kr0_8, kr0_9, kr1_1, kr1_2, kr1_3, kr1_4, kr1_5, kr7_6, kr7_7, kr7_8, kr7_9, kr7_10, kr7_11, kr7_12, kr7_13, kr7_14, kr7_15, kr7_16, kr16_1, kr16_2, kr19_1, kr19_2, kr22_1, kr22_2, kr25_6, kr25_7, kr25_8, kr25_9, kr25_10, kr25_11, kr25_12, kr25_13, kr25_14, kr25_15, kr25_16, kr34_1, kr34_2, kr37_1, kr37_2, kr40_1, kr40_2, kr43_2, kr43_3, kr44_0, kr44_1, kr44_4, kr46_0, kr48_0, kr50_0, kr52_0, kr54_0, kr56_0, kr60_3, kr60_4, kr63_0, kr63_1, kr63_2, kr66_0, kr66_1, kr66_2, kr66_3, kr66_4, kr67_0, kr70_0, kr70_1, kr70_2, kr72_1, kr72_2, kr72_3, kr72_4, kr72_5, kr72_6, kr72_7, kl2, kl3, kl4, kl5, kl6, kl8, kl9, kl10, kl11, kl12, kl13, kl14, kl15, kl17, kl18, kl20, kl21, kl23, kl24, kl26, kl27, kl28, kl29, kl30, kl31, kl32, kl33, kl35, kl36, kl38, kl39, kl41, kl42, kl45, kl47, kl49, kl51, kl53, kl55, kl57, kl58, kl59, kl61, kl62, kl64, kl65, kl68, kl69, kl71, kl73, kl74, kl75, kl76, a1]
    refine ⟨_, rfl, kp_ch.wi (S := fun r => r = 44 ∨ 46 ≤ r ∧ r ≤ 58 ∨ r = 60) (a2.mono (fun r h => by omega)) (by omega), by rw [kp_wi_col (by decide), e2, h1], by rw [kp_wi_col (by decide), e2], fun e => by (cases e), fun Z' e => ?_⟩
    cases e
    refine ⟨kp_wi_same _ _ _ _, fun x hx => ?_, fun c hc => ?_, ?_, ?_⟩
    · rw [← a3.1 x hx]
      exact kp_cD_eq (kz_rowf (by omega)) (kz_rowf (by omega))
    · rw [kp_wi_row (by decide)]; exact a3.2.1 c hc
    · rw [kp_wi_row (by decide)]; exact a3.2.2.1
    · rw [kp_wi_row (by decide)]; exact a3.2.2.2
theorem kp_hold20 {σ : kf_St} {s : Nat} (hs : s < 3) : ∀ (m k : Nat), k + m = 70 → ∀ fuel, m < fuel → ∀ τ, kp_chM (fun r => r = 121) (fun _ => False) σ τ → (∀ j, τ.1 121 j = if 70 * s ≤ j ∧ j < 70 * s + k then σ.1 111 (0 + (j - 70 * s)) else σ.1 121 j) → ∃ τ' n', f_X12_hold_20 fuel 77 (nI s) (nI k) τ = f_X12_hold_20 (n' + 1) 77 (nI s) (nI 70) τ' ∧ kp_chM (fun r => r = 121) (fun _ => False) σ τ' ∧ (∀ j, τ'.1 121 j = if 70 * s ≤ j ∧ j < 70 * s + 70 then σ.1 111 (0 + (j - 70 * s)) else σ.1 121 j) := by
  intro m
  induction m with
  | zero =>
    intro k hk fuel hf τ h1 h2
    obtain ⟨n, rfl⟩ := kp_fuel (show 0 < fuel by omega)
    obtain rfl : k = 70 := by omega
    exact ⟨τ, n, rfl, h1, h2⟩
  | succ m ih =>
    intro k hk fuel hf τ h1 h2
    obtain ⟨n, rfl⟩ := kp_fuel (show 0 < fuel by omega)
    have e : f_X12_hold_20 (n + 1) 77 (nI s) (nI k) τ = f_X12_hold_20 n 77 (nI s) (nI (k + 1)) (kf_wi τ 121 (70 * s + k) (σ.1 111 (0 + k))) := by
      show f_X12_hold_20_s (f_X12_hold_20 n) 77 (nI s) (nI k) τ = _
      unfold f_X12_hold_20_s
      simp (disch := omega) only [↓reduceIte, kz_lt, Option.bind_some, kz_ix, kz_leT, kz_leF, kz_ltT, kz_ltF, kz_lt0, kz_0le, kz_0ltT, kz_le0F, kz_eq0F, kz_10, kz_00, kz_11, kz_01, nI_clamp, nI_1, nI_add, pk_mul, kn2, kn3, kn4, kn5, kn6, kn7, kn8, kn9, kn10, kn16, kn20, kn24, kn30, kn32, kn36, kn40, kn41, kn42, kn48, kn54, kn60, kn61, kn64, kn69, kn70, kn99, kn100, kc0, kc1, kc2, kc3, kc4, kc5, kc6, kc7, kc8, kc9, kc10, kx0, kx1, kx2, kx3, kx4, kx5, kx6, kx7, kx8, kr77_1, kr77_3, kr77_5, kr77_6, kr77_7, kr77_8, kr77_9, kr77_21, kr77_22, kr77_23, kr77_24, kr77_25, kr77_26, kr77_27, kr77_28, kr77_29, kr77_30, kr77_31, kr77_32, kr77_33, kr77_34, kr77_35, kr77_36, kr77_38, kr77_39, kr77_40, kr77_41, kr77_42, kr77_44, kr77_45, kr77_46, kr77_48, kr77_49, kr77_51, kr77_52, kr77_55, kr77_57, kr77_58, kr77_59, kr77_61, kr77_62, kr77_63, kr77_64, kr77_65, kl78, kl79, kl80, kl81, kl82, kl83, kl84, kl85, kl86, kl87, kl88, kl89, kl90, kl91, kl92, kl93, kl94, kl95, kl96, kl97, kl98, kl99, kl100, kl101, kl102, kl103, kl104, kl105, kl106, kl107, kl108, kl109, kl110, kl111, kl112, kl113, kl114, kl115, kl116, kl117, kl118, kl119, kl120, kl121, Nat.zero_add, h1.1 111 (by decide) (by decide)]
    rw [e]
    refine ih (k + 1) (by omega) n (by omega) _ (kp_chM.wi h1 rfl (by decide)) (fun j => ?_)
    by_cases e1 : j = 70 * s + k
    · rw [e1, kp_wi_same, if_pos ⟨by omega, by omega⟩, show 0 + (70 * s + k - 70 * s) = 0 + k by omega]
    · rw [kp_wi_col e1, h2 j]
      by_cases e2 : 70 * s ≤ j ∧ j < 70 * s + k
      · rw [if_pos e2, if_pos ⟨e2.1, by omega⟩]
      · rw [if_neg e2, if_neg (fun x => e2 ⟨x.1, by omega⟩)]
theorem kp_rest22 {σ : kf_St} {s : Nat} (hs : s < 3) : ∀ (m k : Nat), k + m = 70 → ∀ fuel, m < fuel → ∀ τ, kp_chM (fun r => r = 111) (fun _ => False) σ τ → (∀ j, τ.1 111 j = if 0 ≤ j ∧ j < 0 + k then σ.1 121 (70 * s + (j - 0)) else σ.1 111 j) → ∃ τ' n', f_X12_restore_22 fuel 77 (nI s) (nI k) τ = f_X12_restore_22 (n' + 1) 77 (nI s) (nI 70) τ' ∧ kp_chM (fun r => r = 111) (fun _ => False) σ τ' ∧ (∀ j, τ'.1 111 j = if 0 ≤ j ∧ j < 0 + 70 then σ.1 121 (70 * s + (j - 0)) else σ.1 111 j) := by
  intro m
  induction m with
  | zero =>
    intro k hk fuel hf τ h1 h2
    obtain ⟨n, rfl⟩ := kp_fuel (show 0 < fuel by omega)
    obtain rfl : k = 70 := by omega
    exact ⟨τ, n, rfl, h1, h2⟩
  | succ m ih =>
    intro k hk fuel hf τ h1 h2
    obtain ⟨n, rfl⟩ := kp_fuel (show 0 < fuel by omega)
    have e : f_X12_restore_22 (n + 1) 77 (nI s) (nI k) τ = f_X12_restore_22 n 77 (nI s) (nI (k + 1)) (kf_wi τ 111 (0 + k) (σ.1 121 (70 * s + k))) := by
      show f_X12_restore_22_s (f_X12_restore_22 n) 77 (nI s) (nI k) τ = _
      unfold f_X12_restore_22_s
      simp (disch := omega) only [↓reduceIte, kz_lt, Option.bind_some, kz_ix, kz_leT, kz_leF, kz_ltT, kz_ltF, kz_lt0, kz_0le, kz_0ltT, kz_le0F, kz_eq0F, kz_10, kz_00, kz_11, kz_01, nI_clamp, nI_1, nI_add, pk_mul, kn2, kn3, kn4, kn5, kn6, kn7, kn8, kn9, kn10, kn16, kn20, kn24, kn30, kn32, kn36, kn40, kn41, kn42, kn48, kn54, kn60, kn61, kn64, kn69, kn70, kn99, kn100, kc0, kc1, kc2, kc3, kc4, kc5, kc6, kc7, kc8, kc9, kc10, kx0, kx1, kx2, kx3, kx4, kx5, kx6, kx7, kx8, kr77_1, kr77_3, kr77_5, kr77_6, kr77_7, kr77_8, kr77_9, kr77_21, kr77_22, kr77_23, kr77_24, kr77_25, kr77_26, kr77_27, kr77_28, kr77_29, kr77_30, kr77_31, kr77_32, kr77_33, kr77_34, kr77_35, kr77_36, kr77_38, kr77_39, kr77_40, kr77_41, kr77_42, kr77_44, kr77_45, kr77_46, kr77_48, kr77_49, kr77_51, kr77_52, kr77_55, kr77_57, kr77_58, kr77_59, kr77_61, kr77_62, kr77_63, kr77_64, kr77_65, kl78, kl79, kl80, kl81, kl82, kl83, kl84, kl85, kl86, kl87, kl88, kl89, kl90, kl91, kl92, kl93, kl94, kl95, kl96, kl97, kl98, kl99, kl100, kl101, kl102, kl103, kl104, kl105, kl106, kl107, kl108, kl109, kl110, kl111, kl112, kl113, kl114, kl115, kl116, kl117, kl118, kl119, kl120, kl121, Nat.zero_add, h1.1 121 (by decide) (by decide)]
    rw [e]
    refine ih (k + 1) (by omega) n (by omega) _ (kp_chM.wi h1 rfl (by decide)) (fun j => ?_)
    by_cases e1 : j = 0 + k
    · rw [e1, kp_wi_same, if_pos ⟨by omega, by omega⟩, show 70 * s + (0 + k - 0) = 70 * s + k by omega]
    · rw [kp_wi_col e1, h2 j]
      by_cases e2 : 0 ≤ j ∧ j < 0 + k
      · rw [if_pos e2, if_pos ⟨e2.1, by omega⟩]
      · rw [if_neg e2, if_neg (fun x => e2 ⟨x.1, by omega⟩)]
theorem kp_holdM {σ : kf_St} {Q : Nat → Option kp_S} {S : kp_S} {s : Nat} (hQ : kp_QM σ Q) (hS : kp_fS (σ.1 111) S) (hs : s < 3) : ∃ σ', f_X12_hold 77 (nI s) σ = some (1, σ') ∧ kp_chM (fun r => r = 120 ∨ r = 121) (fun _ => False) σ σ' ∧ kp_QM σ' (kp_sl Q s S) := by
  obtain ⟨τ, q, e, h1, h4⟩ := kp_hold20 (σ := kf_wi σ 120 s 1) hs 70 0 rfl kf_F (kf_F_gt (by decide)) _ kp_chM.rf (kp_set0 _)
  have e' : f_X12_hold_20 kf_F 77 (nI s) 0 (kf_wi σ 120 s 1) = f_X12_hold_20_s (f_X12_hold_20 q) 77 (nI s) (nI 70) τ := e
  have hin : f_X12_in (nI s) 0 2 σ = some (1, σ) := by
    have := kp_in (σ := σ) (n := 3) (x := nI s) (by decide)
    rw [if_pos ((kp_is_iff (by decide)).mpr ⟨s, hs, rfl⟩)] at this
    exact this
  unfold f_X12_hold
  simp (disch := omega) only [↓reduceIte, kz_lt, Option.bind_some, kz_ix, kz_leT, kz_leF, kz_ltT, kz_ltF, kz_lt0, kz_0le, kz_0ltT, kz_le0F, kz_eq0F, kz_10, kz_00, kz_11, kz_01, nI_clamp, nI_1, nI_add, pk_mul, kc0, kc1, kc2, kc3, kc4, kc5, kc6, kc7, kc8, kc9, kc10, kx0, kx1, kx2, kx3, kx4, kx5, kx6, kx7, kx8, kr77_1, kr77_3, kr77_5, kr77_6, kr77_7, kr77_8, kr77_9, kr77_21, kr77_22, kr77_23, kr77_24, kr77_25, kr77_26, kr77_27, kr77_28, kr77_29, kr77_30, kr77_31, kr77_32, kr77_33, kr77_34, kr77_35, kr77_36, kr77_38, kr77_39, kr77_40, kr77_41, kr77_42, kr77_44, kr77_45, kr77_46, kr77_48, kr77_49, kr77_51, kr77_52, kr77_55, kr77_57, kr77_58, kr77_59, kr77_61, kr77_62, kr77_63, kr77_64, kr77_65, kl78, kl79, kl80, kl81, kl82, kl83, kl84, kl85, kl86, kl87, kl88, kl89, kl90, kl91, kl92, kl93, kl94, kl95, kl96, kl97, kl98, kl99, kl100, kl101, kl102, kl103, kl104, kl105, kl106, kl107, kl108, kl109, kl110, kl111, kl112, kl113, kl114, kl115, kl116, kl117, kl118, kl119, kl120, kl121, hin, show vp_nar .boolean 1 = 1 from rfl, e']
  unfold f_X12_hold_20_s
  simp (disch := omega) only [↓reduceIte, kz_lt, Option.bind_some, kz_ix, kz_leT, kz_leF, kz_ltT, kz_ltF, kz_lt0, kz_0le, kz_0ltT, kz_le0F, kz_eq0F, kz_10, kz_00, kz_11, kz_01, nI_clamp, nI_1, nI_add, pk_mul, kn2, kn3, kn4, kn5, kn6, kn7, kn8, kn9, kn10, kn16, kn20, kn24, kn30, kn32, kn36, kn40, kn41, kn42, kn48, kn54, kn60, kn61, kn64, kn69, kn70, kn99, kn100, kc0, kc1, kc2, kc3, kc4, kc5, kc6, kc7, kc8, kc9, kc10, kx0, kx1, kx2, kx3, kx4, kx5, kx6, kx7, kx8, kr77_1, kr77_3, kr77_5, kr77_6, kr77_7, kr77_8, kr77_9, kr77_21, kr77_22, kr77_23, kr77_24, kr77_25, kr77_26, kr77_27, kr77_28, kr77_29, kr77_30, kr77_31, kr77_32, kr77_33, kr77_34, kr77_35, kr77_36, kr77_38, kr77_39, kr77_40, kr77_41, kr77_42, kr77_44, kr77_45, kr77_46, kr77_48, kr77_49, kr77_51, kr77_52, kr77_55, kr77_57, kr77_58, kr77_59, kr77_61, kr77_62, kr77_63, kr77_64, kr77_65, kl78, kl79, kl80, kl81, kl82, kl83, kl84, kl85, kl86, kl87, kl88, kl89, kl90, kl91, kl92, kl93, kl94, kl95, kl96, kl97, kl98, kl99, kl100, kl101, kl102, kl103, kl104, kl105, kl106, kl107, kl108, kl109, kl110, kl111, kl112, kl113, kl114, kl115, kl116, kl117, kl118, kl119, kl120, kl121]
  refine ⟨τ, rfl, (kp_chM.wi (S := fun r => r = 120 ∨ r = 121) kp_chM.rf (Or.inl rfl) (by decide)).tr (h1.mono (fun r h => Or.inr h) (fun j h => h)), fun i hi => ?_⟩
  have e120 : ∀ j, τ.1 120 j = (kf_wi σ 120 s 1).1 120 j := fun j => by rw [h1.1 120 (by decide) (by decide)]
  unfold kp_sl
  by_cases b : i = s
  · subst b
    rw [if_pos rfl]
    refine Or.inr ⟨S, rfl, by rw [e120, kp_wi_same], hS.ch (fun j hj => ?_)⟩
    rw [h4, if_pos (by omega), kp_wi_row (by decide), show 0 + (70 * i + j - 70 * i) = j by omega]
  · rw [if_neg b]
    have : ∀ j, j < 70 → τ.1 121 (70 * i + j) = σ.1 121 (70 * i + j) := fun j hj => by rw [h4, if_neg (by omega), kp_wi_row (by decide)]
    rcases hQ i hi with ⟨q1, q2⟩ | ⟨S', q1, q2, q3⟩
    · exact Or.inl ⟨q1, by rw [e120, kp_wi_col b, q2]⟩
    · exact Or.inr ⟨S', q1, by rw [e120, kp_wi_col b, q2], q3.ch this⟩
theorem kp_restoreM {σ : kf_St} {Q : Nat → Option kp_S} {s : Nat} (hQ : kp_QM σ Q) (hs : s < 3) : ∃ σ', f_X12_restore 77 (nI s) σ = some (if (Q s).isNone then 0 else 1, σ') ∧ kp_chM (fun r => r = 111) (fun j => j = 56) σ σ' ∧ (Q s = none → σ' = σ) ∧ (∀ Z, Q s = some Z → σ'.1 77 56 = 0 ∧ kp_fS (σ'.1 111) Z) := by
  have hin : f_X12_in (nI s) 0 2 σ = some (1, σ) := by
    have := kp_in (σ := σ) (n := 3) (x := nI s) (by decide)
    rw [if_pos ((kp_is_iff (by decide)).mpr ⟨s, hs, rfl⟩)] at this
    exact this
  unfold f_X12_restore
  simp (disch := omega) only [↓reduceIte, kz_lt, Option.bind_some, kz_ix, kz_leT, kz_leF, kz_ltT, kz_ltF, kz_lt0, kz_0le, kz_0ltT, kz_le0F, kz_eq0F, kz_10, kz_00, kz_11, kz_01, nI_clamp, nI_1, nI_add, pk_mul, kc0, kc1, kc2, kc3, kc4, kc5, kc6, kc7, kc8, kc9, kc10, kx0, kx1, kx2, kx3, kx4, kx5, kx6, kx7, kx8, kr77_1, kr77_3, kr77_5, kr77_6, kr77_7, kr77_8, kr77_9, kr77_21, kr77_22, kr77_23, kr77_24, kr77_25, kr77_26, kr77_27, kr77_28, kr77_29, kr77_30, kr77_31, kr77_32, kr77_33, kr77_34, kr77_35, kr77_36, kr77_38, kr77_39, kr77_40, kr77_41, kr77_42, kr77_44, kr77_45, kr77_46, kr77_48, kr77_49, kr77_51, kr77_52, kr77_55, kr77_57, kr77_58, kr77_59, kr77_61, kr77_62, kr77_63, kr77_64, kr77_65, kl78, kl79, kl80, kl81, kl82, kl83, kl84, kl85, kl86, kl87, kl88, kl89, kl90, kl91, kl92, kl93, kl94, kl95, kl96, kl97, kl98, kl99, kl100, kl101, kl102, kl103, kl104, kl105, kl106, kl107, kl108, kl109, kl110, kl111, kl112, kl113, kl114, kl115, kl116, kl117, kl118, kl119, kl120, kl121, hin]
  rcases hQ s hs with ⟨q1, q2⟩ | ⟨Z, q1, q2, q3⟩
  · rw [q1, q2, if_pos rfl]
    exact ⟨σ, rfl, kp_chM.rf, fun _ => rfl, fun Z e => by cases e⟩
  · obtain ⟨τ, q, e, h1, h4⟩ := kp_rest22 (σ := σ) hs 70 0 rfl kf_F (kf_F_gt (by decide)) _ kp_chM.rf (kp_set0 _)
    have e' : f_X12_restore_22 kf_F 77 (nI s) 0 σ = f_X12_restore_22_s (f_X12_restore_22 q) 77 (nI s) (nI 70) τ := e
    rw [q1, q2, if_neg (by decide), e']
    unfold f_X12_restore_22_s
    simp (disch := omega) only [↓reduceIte, kz_lt, Option.bind_some, kz_ix, kz_leT, kz_leF, kz_ltT, kz_ltF, kz_lt0, kz_0le, kz_0ltT, kz_le0F, kz_eq0F, kz_10, kz_00, kz_11, kz_01, nI_clamp, nI_1, nI_add, pk_mul, kn2, kn3, kn4, kn5, kn6, kn7, kn8, kn9, kn10, kn16, kn20, kn24, kn30, kn32, kn36, kn40, kn41, kn42, kn48, kn54, kn60, kn61, kn64, kn69, kn70, kn99, kn100, kc0, kc1, kc2, kc3, kc4, kc5, kc6, kc7, kc8, kc9, kc10, kx0, kx1, kx2, kx3, kx4, kx5, kx6, kx7, kx8, kr77_1, kr77_3, kr77_5, kr77_6, kr77_7, kr77_8, kr77_9, kr77_21, kr77_22, kr77_23, kr77_24, kr77_25, kr77_26, kr77_27, kr77_28, kr77_29, kr77_30, kr77_31, kr77_32, kr77_33, kr77_34, kr77_35, kr77_36, kr77_38, kr77_39, kr77_40, kr77_41, kr77_42, kr77_44, kr77_45, kr77_46, kr77_48, kr77_49, kr77_51, kr77_52, kr77_55, kr77_57, kr77_58, kr77_59, kr77_61, kr77_62, kr77_63, kr77_64, kr77_65, kl78, kl79, kl80, kl81, kl82, kl83, kl84, kl85, kl86, kl87, kl88, kl89, kl90, kl91, kl92, kl93, kl94, kl95, kl96, kl97, kl98, kl99, kl100, kl101, kl102, kl103, kl104, kl105, kl106, kl107, kl108, kl109, kl110, kl111, kl112, kl113, kl114, kl115, kl116, kl117, kl118, kl119, kl120, kl121]
    refine ⟨_, rfl, kp_chM.ws (h1.mono (fun r h => h) (fun j h => h.elim)) rfl, fun e => by (cases e), fun Z' e => ?_⟩
    cases e
    refine ⟨kp_wi_same _ _ _ _, q3.ch (fun j hj => ?_)⟩
    rw [kp_wi_row (by decide), h4, if_pos ⟨Nat.zero_le _, by omega⟩, Nat.sub_zero]
