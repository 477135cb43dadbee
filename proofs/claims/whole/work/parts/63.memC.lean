/-! ===== pure: the class's snapshots, ring and shelf ===== -/
def kp_gD (ρ : Nat → Int32) (d : Nat) : kp_D := (kd_cut (fun p => ρ (d * 9 + p)), ρ (d * 9 + 4), ρ (d * 9 + 5), ρ (d * 9 + 6), ρ (d * 9 + 7), ρ (d * 9 + 8))
def kp_gS (ρ : Nat → Int32) (nd : Nat) (S : kp_S) : Prop := (∀ d, d < nd → kp_gD ρ d = S.1 d) ∧ (∀ c, c < 5 → ρ (54 + c) = S.2.1 c) ∧ ρ 59 = nI S.2.2.1 ∧ ρ 60 = nI S.2.2.2
def kp_cS (σ : kf_St) (nd : Nat) (S : kp_S) : Prop := (∀ d, d < nd → kp_cD σ (46 + 2 * d) = S.1 d) ∧ (∀ c, c < 5 → σ.1 58 c = S.2.1 c) ∧ σ.1 44 2 = nI S.2.2.1 ∧ σ.1 44 3 = nI S.2.2.2
theorem kp_gD_mk {ρ : Nat → Int32} {d : Nat} {D : kp_D} (h0 : ∀ q, q < 4 → ρ (d * 9 + q) = D.1 q) (hc : kd_cut D.1 = D.1) (h1 : ρ (d * 9 + 4) = D.2.1) (h2 : ρ (d * 9 + 5) = D.2.2.1) (h3 : ρ (d * 9 + 6) = D.2.2.2.1) (h4 : ρ (d * 9 + 7) = D.2.2.2.2.1) (h5 : ρ (d * 9 + 8) = D.2.2.2.2.2) : kp_gD ρ d = D := by
  unfold kp_gD
  rw [kd_cut_eq h0, hc, h1, h2, h3, h4, h5]
theorem kp_gD_f {ρ : Nat → Int32} {d : Nat} {D : kp_D} (h : kp_gD ρ d = D) : (∀ q, q < 4 → ρ (d * 9 + q) = D.1 q) ∧ ρ (d * 9 + 4) = D.2.1 ∧ ρ (d * 9 + 5) = D.2.2.1 ∧ ρ (d * 9 + 6) = D.2.2.2.1 ∧ ρ (d * 9 + 7) = D.2.2.2.2.1 ∧ ρ (d * 9 + 8) = D.2.2.2.2.2 := by
  subst h
  exact ⟨fun q hq => (kd_cut_at (f := fun p => ρ (d * 9 + p)) hq).symm, rfl, rfl, rfl, rfl, rfl⟩
theorem kp_gD_cut {ρ : Nat → Int32} {d : Nat} {D : kp_D} (h : kp_gD ρ d = D) : kd_cut D.1 = D.1 := by
  subst h
  exact kd_cut_cut _
theorem kp_gD_eq {ρ ρ' : Nat → Int32} {d : Nat} (e : ∀ j, d * 9 ≤ j → j < d * 9 + 9 → ρ' j = ρ j) : kp_gD ρ' d = kp_gD ρ d := by
  unfold kp_gD
  rw [kd_cut_eq (g := fun p => ρ (d * 9 + p)) (fun q hq => e _ (by omega) (by omega)), e _ (by omega) (by omega), e _ (by omega) (by omega), e _ (by omega) (by omega), e _ (by omega) (by omega), e _ (by omega) (by omega)]
theorem kp_gS.ch {ρ ρ' : Nat → Int32} {nd : Nat} {S : kp_S} (h : kp_gS ρ nd S) (hn : nd ≤ 6) (e : ∀ j, j < 61 → ρ' j = ρ j) : kp_gS ρ' nd S := by
  obtain ⟨h1, h2, h3, h4⟩ := h
  refine ⟨fun d hd => ?_, fun c hc => by rw [e _ (by omega)]; exact h2 c hc, by rw [e _ (by omega)]; exact h3, by rw [e _ (by omega)]; exact h4⟩
  rw [← h1 d hd]
  exact kp_gD_eq (fun j a b => e j (by omega))
theorem kp_cD_cut' {σ : kf_St} {k : Nat} {D : kp_D} (h : kp_cD σ k = D) : kd_cut D.1 = D.1 := by
  subst h
  exact kd_cut_cut _
theorem kz_cok {s d n a b : Nat} (h1 : s + n ≤ a) (h2 : d + n ≤ b) (ha : a < 2 ^ 31) (hb : b < 2 ^ 31) : (kf_cok (nI s) (nI d) (nI n) a b = true) = True := eq_true (decide_eq_true ⟨nI_pos (by omega), nI_pos (by omega), nI_pos (by omega), by rw [nI_clamp (by omega), nI_clamp (by omega)]; exact h1, by rw [nI_clamp (by omega), nI_clamp (by omega)]; exact h2⟩)
theorem kz_cok0 {d n a b : Nat} (h1 : n ≤ a) (h2 : d + n ≤ b) (ha : a < 2 ^ 31) (hb : b < 2 ^ 31) : (kf_cok 0 (nI d) (nI n) a b = true) = True := kz_cok (s := 0) (by omega) h2 ha hb
theorem kz_cok1 {s n a b : Nat} (h1 : s + n ≤ a) (h2 : n ≤ b) (ha : a < 2 ^ 31) (hb : b < 2 ^ 31) : (kf_cok (nI s) 0 (nI n) a b = true) = True := kz_cok (d := 0) h1 (by omega) ha hb
theorem kz_ci_in {σ : kf_St} {a b sp dp n j : Nat} (h : dp ≤ j) (h2 : j < dp + n) : (kf_ci σ a b sp dp n).1 b j = σ.1 a (sp + (j - dp)) := by
  rw [kp_ci_at, if_pos rfl, pk_cpy_in h h2]
theorem kz_ci_out {σ : kf_St} {a b sp dp n j : Nat} (h : j < dp ∨ dp + n ≤ j) : (kf_ci σ a b sp dp n).1 b j = σ.1 b j := by
  rw [kp_ci_at, if_pos rfl, pk_cpy_out h]
theorem kp_save1 {σ : kf_St} {k R st : Nat} (hk : kp_isK k) (hk6 : k ≤ 56) (hR : R = 61 ∨ R = 62) (hst : st + 9 ≤ kf_ln R) : ∃ σ', f_X1_save k R (nI st) σ = some σ' ∧ kp_ch (fun r => r = R) σ σ' ∧ (∀ j, j < st ∨ st + 9 ≤ j → σ'.1 R j = σ.1 R j) ∧ (∀ q, q < 4 → σ'.1 R (st + q) = σ.1 (k + 1) q) ∧ σ'.1 R (st + 4) = σ.1 k 1 ∧ σ'.1 R (st + 5) = σ.1 k 2 ∧ σ'.1 R (st + 6) = σ.1 k 3 ∧ σ'.1 R (st + 7) = σ.1 k 4 ∧ (σ.1 k 5 = 0 ∨ σ.1 k 5 = 1 → σ'.1 R (st + 8) = σ.1 k 5) := by
  obtain ⟨hk1, hk2, hk3⟩ := hk
  have hR2 : kf_ln R < 2 ^ 30 := by rcases hR with rfl | rfl <;> decide
  have e9 : nI (kf_ln R) - 9 = nI (kf_ln R - 9) := pk_sub (b := 9) (by omega)
  have fin : ∀ v, (σ.1 k 5 = 0 ∨ σ.1 k 5 = 1 → v = σ.1 k 5) → ∃ σ', f_X1_save_85 R (nI (st + 4 + 4)) v (kf_wi (kf_wi (kf_wi (kf_wi (kf_ci σ (k + 1) R 0 st 4) R (st + 4) (σ.1 k 1)) R (st + 4 + 1) (σ.1 k 2)) R (st + 4 + 2) (σ.1 k 3)) R (st + 4 + 3) (σ.1 k 4)) = some σ' ∧ kp_ch (fun r => r = R) σ σ' ∧ (∀ j, j < st ∨ st + 9 ≤ j → σ'.1 R j = σ.1 R j) ∧ (∀ q, q < 4 → σ'.1 R (st + q) = σ.1 (k + 1) q) ∧ σ'.1 R (st + 4) = σ.1 k 1 ∧ σ'.1 R (st + 5) = σ.1 k 2 ∧ σ'.1 R (st + 6) = σ.1 k 3 ∧ σ'.1 R (st + 7) = σ.1 k 4 ∧ (σ.1 k 5 = 0 ∨ σ.1 k 5 = 1 → σ'.1 R (st + 8) = σ.1 k 5) := by
    intro v hv
    unfold f_X1_save_85
    simp (disch := omega) only [↓reduceIte, kz_lt, Option.bind_some, kz_ix, kz_leT, kz_leF, kz_ltT, kz_ltF, kz_lt0, kz_0le, kz_0ltT, kz_le0F, kz_eq0F, kz_10, kz_00, kz_11, kz_01, nI_clamp, nI_1, nI_add, pk_mul, kc0, kc1, kc2, kc3, kc4, kc5, kc6, kc7, kc8, kc9, kc10, kx0, kx1, kx2, kx3, kx4, kx5, kx6, kx7, kx8, kr0_0, kr0_1, kr0_2, kr0_3, kr0_4, kr0_5, kr0_6, kr0_7, kr0_8, kr0_9, kr1_1, kr1_2, kr1_3, kr1_4, kr1_5, kr7_6, kr7_7, kr7_8, kr7_9, kr7_10, kr7_11, kr7_12, kr7_13, kr7_14, kr7_15, kr7_16, kr16_1, kr16_2, kr19_1, kr19_2, kr22_1, kr22_2, kr25_6, kr25_7, kr25_8, kr25_9, kr25_10, kr25_11, kr25_12, kr25_13, kr25_14, kr25_15, kr25_16, kr34_1, kr34_2, kr37_1, kr37_2, kr40_1, kr40_2, kr43_2, kr43_3, kr44_0, kr44_1, kr44_4, kr46_0, kr48_0, kr50_0, kr52_0, kr54_0, kr56_0, kr60_3, kr60_4, kr63_0, kr63_1, kr63_2, kr66_0, kr66_1, kr66_2, kr66_3, kr66_4, kr67_0, kr70_0, kr70_1, kr70_2, kr72_1, kr72_2, kr72_3, kr72_4, kr72_5, kr72_6, kr72_7, kl2, kl3, kl4, kl5, kl6, kl8, kl9, kl10, kl11, kl12, kl13, kl14, kl15, kl17, kl18, kl20, kl21, kl23, kl24, kl26, kl27, kl28, kl29, kl30, kl31, kl32, kl33, kl35, kl36, kl38, kl39, kl41, kl42, kl45, kl47, kl49, kl51, kl53, kl55, kl57, kl58, kl59, kl61, kl62, kl64, kl65, kl68, kl69, kl71, kl73, kl74, kl75, kl76]
    have h0 : kp_ch (fun r => r = R) σ (kf_ci σ (k + 1) R 0 st 4) := kp_ch.ci (S := fun r => r = R) kp_ch.rf rfl
    refine ⟨_, rfl, kp_ch.wi (S := fun r => r = R) (kp_ch.wi (S := fun r => r = R) (kp_ch.wi (S := fun r => r = R) (kp_ch.wi (S := fun r => r = R) (kp_ch.wi (S := fun r => r = R) h0 rfl) rfl) rfl) rfl) rfl, fun j hj => ?_, fun q hq => ?_, ?_, ?_, ?_, ?_, fun z => ?_⟩
    · simp (disch := omega) only [↓reduceIte, kz_lt, Option.bind_some, kz_ix, kz_leT, kz_leF, kz_ltT, kz_ltF, kz_lt0, kz_0le, kz_0ltT, kz_le0F, kz_eq0F, kz_10, kz_00, kz_11, kz_01, nI_clamp, nI_1, nI_add, pk_mul, kz_col, kz_ci_out]
    · simp (disch := omega) only [↓reduceIte, kz_lt, Option.bind_some, kz_ix, kz_leT, kz_leF, kz_ltT, kz_ltF, kz_lt0, kz_0le, kz_0ltT, kz_le0F, kz_eq0F, kz_10, kz_00, kz_11, kz_01, nI_clamp, nI_1, nI_add, pk_mul, kz_col, kz_ci_in]
      rw [show 0 + (st + q - st) = q by omega]
    · simp (disch := omega) only [↓reduceIte, kz_lt, Option.bind_some, kz_ix, kz_leT, kz_leF, kz_ltT, kz_ltF, kz_lt0, kz_0le, kz_0ltT, kz_le0F, kz_eq0F, kz_10, kz_00, kz_11, kz_01, nI_clamp, nI_1, nI_add, pk_mul, kz_col, kz_same']
    · simp (disch := omega) only [↓reduceIte, kz_lt, Option.bind_some, kz_ix, kz_leT, kz_leF, kz_ltT, kz_ltF, kz_lt0, kz_0le, kz_0ltT, kz_le0F, kz_eq0F, kz_10, kz_00, kz_11, kz_01, nI_clamp, nI_1, nI_add, pk_mul, kz_col, kz_same']
    · simp (disch := omega) only [↓reduceIte, kz_lt, Option.bind_some, kz_ix, kz_leT, kz_leF, kz_ltT, kz_ltF, kz_lt0, kz_0le, kz_0ltT, kz_le0F, kz_eq0F, kz_10, kz_00, kz_11, kz_01, nI_clamp, nI_1, nI_add, pk_mul, kz_col, kz_same']
    · simp (disch := omega) only [↓reduceIte, kz_lt, Option.bind_some, kz_ix, kz_leT, kz_leF, kz_ltT, kz_ltF, kz_lt0, kz_0le, kz_0ltT, kz_le0F, kz_eq0F, kz_10, kz_00, kz_11, kz_01, nI_clamp, nI_1, nI_add, pk_mul, kz_col, kz_same']
    · simp (disch := omega) only [↓reduceIte, kz_lt, Option.bind_some, kz_ix, kz_leT, kz_leF, kz_ltT, kz_ltF, kz_lt0, kz_0le, kz_0ltT, kz_le0F, kz_eq0F, kz_10, kz_00, kz_11, kz_01, nI_clamp, nI_1, nI_add, pk_mul, kz_same']
      exact hv z
  unfold f_X1_save
  rw [e9]
  simp (disch := omega) only [↓reduceIte, kz_lt, Option.bind_some, kz_ix, kz_leT, kz_leF, kz_ltT, kz_ltF, kz_lt0, kz_0le, kz_0ltT, kz_le0F, kz_eq0F, kz_10, kz_00, kz_11, kz_01, nI_clamp, nI_1, nI_add, pk_mul, kn2, kn3, kn4, kn5, kn6, kn7, kn8, kn9, kn10, kn16, kn20, kn24, kn30, kn32, kn36, kn40, kn41, kn42, kn48, kn54, kn60, kn61, kn64, kn69, kn70, kn99, kn100, kc0, kc1, kc2, kc3, kc4, kc5, kc6, kc7, kc8, kc9, kc10, kx0, kx1, kx2, kx3, kx4, kx5, kx6, kx7, kx8, kr0_0, kr0_1, kr0_2, kr0_3, kr0_4, kr0_5, kr0_6, kr0_7, kr0_8, kr0_9, kr1_1, kr1_2, kr1_3, kr1_4, kr1_5, kr7_6, kr7_7, kr7_8, kr7_9, kr7_10, kr7_11, kr7_12, kr7_13, kr7_14, kr7_15, kr7_16, kr16_1, kr16_2, kr19_1, kr19_2, kr22_1, kr22_2, kr25_6, kr25_7, kr25_8, kr25_9, kr25_10, kr25_11, kr25_12, kr25_13, kr25_14, kr25_15, kr25_16, kr34_1, kr34_2, kr37_1, kr37_2, kr40_1, kr40_2, kr43_2, kr43_3, kr44_0, kr44_1, kr44_4, kr46_0, kr48_0, kr50_0, kr52_0, kr54_0, kr56_0, kr60_3, kr60_4, kr63_0, kr63_1, kr63_2, kr66_0, kr66_1, kr66_2, kr66_3, kr66_4, kr67_0, kr70_0, kr70_1, kr70_2, kr72_1, kr72_2, kr72_3, kr72_4, kr72_5, kr72_6, kr72_7, kl2, kl3, kl4, kl5, kl6, kl8, kl9, kl10, kl11, kl12, kl13, kl14, kl15, kl17, kl18, kl20, kl21, kl23, kl24, kl26, kl27, kl28, kl29, kl30, kl31, kl32, kl33, kl35, kl36, kl38, kl39, kl41, kl42, kl45, kl47, kl49, kl51, kl53, kl55, kl57, kl58, kl59, kl61, kl62, kl64, kl65, kl68, kl69, kl71, kl73, kl74, kl75, kl76, hk1, hk2, kz_cok0, kp_ci_row (show k ≠ R by omega), kz_row (show k ≠ R by omega)]
  by_cases b : σ.1 k 5 = 0
  · rw [if_pos b]
    exact fin 0 (fun _ => b.symm)
  · rw [if_neg b]
    exact fin 1 (fun z => by rcases z with z | z; exact absurd z b; exact z.symm)
theorem kp_load1 {σ : kf_St} {k R st : Nat} (hk : kp_isK k) (hk6 : k ≤ 56) (hR : R = 61 ∨ R = 62) (hst : st + 9 ≤ kf_ln R) : ∃ σ', f_X1_load k R (nI st) σ = some σ' ∧ kp_ch (fun r => r = k ∨ r = k + 1) σ σ' ∧ (∀ q, q < 4 → σ'.1 (k + 1) q = σ.1 R (st + q)) ∧ σ'.1 k 1 = σ.1 R (st + 4) ∧ σ'.1 k 2 = σ.1 R (st + 5) ∧ σ'.1 k 3 = σ.1 R (st + 6) ∧ σ'.1 k 4 = σ.1 R (st + 7) ∧ (σ.1 R (st + 8) = 0 ∨ σ.1 R (st + 8) = 1 → σ'.1 k 5 = σ.1 R (st + 8)) := by
  obtain ⟨hk1, hk2, hk3⟩ := hk
  have hR2 : kf_ln R < 2 ^ 30 := by rcases hR with rfl | rfl <;> decide
  have e9 : nI (kf_ln R) - 9 = nI (kf_ln R - 9) := pk_sub (b := 9) (by omega)
  have fin : ∀ v, (v = 0 ∨ v = 1) → (σ.1 R (st + 8) = 0 ∨ σ.1 R (st + 8) = 1 → v = σ.1 R (st + 8)) → ∃ σ', f_X1_load_84 k v (kf_wi (kf_wi (kf_wi (kf_wi (kf_ci σ R (k + 1) st 0 4) k 1 (σ.1 R (st + 4))) k 2 (σ.1 R (st + 4 + 1))) k 3 (σ.1 R (st + 4 + 2))) k 4 (σ.1 R (st + 4 + 3))) = some σ' ∧ kp_ch (fun r => r = k ∨ r = k + 1) σ σ' ∧ (∀ q, q < 4 → σ'.1 (k + 1) q = σ.1 R (st + q)) ∧ σ'.1 k 1 = σ.1 R (st + 4) ∧ σ'.1 k 2 = σ.1 R (st + 5) ∧ σ'.1 k 3 = σ.1 R (st + 6) ∧ σ'.1 k 4 = σ.1 R (st + 7) ∧ (σ.1 R (st + 8) = 0 ∨ σ.1 R (st + 8) = 1 → σ'.1 k 5 = σ.1 R (st + 8)) := by
    intro v hv0 hv
    unfold f_X1_load_84
    simp (disch := omega) only [↓reduceIte, kz_lt, Option.bind_some, kz_ix, kz_leT, kz_leF, kz_ltT, kz_ltF, kz_lt0, kz_0le, kz_0ltT, kz_le0F, kz_eq0F, kz_10, kz_00, kz_11, kz_01, nI_clamp, nI_1, nI_add, pk_mul, kc0, kc1, kc2, kc3, kc4, kc5, kc6, kc7, kc8, kc9, kc10, kx0, kx1, kx2, kx3, kx4, kx5, kx6, kx7, kx8, kr0_0, kr0_1, kr0_2, kr0_3, kr0_4, kr0_5, kr0_6, kr0_7, kr0_8, kr0_9, kr1_1, kr1_2, kr1_3, kr1_4, kr1_5, kr7_6, kr7_7, kr7_8, kr7_9, kr7_10, kr7_11, kr7_12, kr7_13, kr7_14, kr7_15, kr7_16, kr16_1, kr16_2, kr19_1, kr19_2, kr22_1, kr22_2, kr25_6, kr25_7, kr25_8, kr25_9, kr25_10, kr25_11, kr25_12, kr25_13, kr25_14, kr25_15, kr25_16, kr34_1, kr34_2, kr37_1, kr37_2, kr40_1, kr40_2, kr43_2, kr43_3, kr44_0, kr44_1, kr44_4, kr46_0, kr48_0, kr50_0, kr52_0, kr54_0, kr56_0, kr60_3, kr60_4, kr63_0, kr63_1, kr63_2, kr66_0, kr66_1, kr66_2, kr66_3, kr66_4, kr67_0, kr70_0, kr70_1, kr70_2, kr72_1, kr72_2, kr72_3, kr72_4, kr72_5, kr72_6, kr72_7, kl2, kl3, kl4, kl5, kl6, kl8, kl9, kl10, kl11, kl12, kl13, kl14, kl15, kl17, kl18, kl20, kl21, kl23, kl24, kl26, kl27, kl28, kl29, kl30, kl31, kl32, kl33, kl35, kl36, kl38, kl39, kl41, kl42, kl45, kl47, kl49, kl51, kl53, kl55, kl57, kl58, kl59, kl61, kl62, kl64, kl65, kl68, kl69, kl71, kl73, kl74, kl75, kl76, kz_zb hv0]
    have h0 : kp_ch (fun r => r = k ∨ r = k + 1) σ (kf_ci σ R (k + 1) st 0 4) := kp_ch.ci (S := fun r => r = k ∨ r = k + 1) kp_ch.rf (Or.inr rfl)
    refine ⟨_, rfl, kp_ch.wi (S := fun r => r = k ∨ r = k + 1) (kp_ch.wi (S := fun r => r = k ∨ r = k + 1) (kp_ch.wi (S := fun r => r = k ∨ r = k + 1) (kp_ch.wi (S := fun r => r = k ∨ r = k + 1) (kp_ch.wi (S := fun r => r = k ∨ r = k + 1) h0 (Or.inl rfl)) (Or.inl rfl)) (Or.inl rfl)) (Or.inl rfl)) (Or.inl rfl), fun q hq => ?_, ?_, ?_, ?_, ?_, fun z => ?_⟩
    · simp (disch := omega) only [↓reduceIte, kz_lt, Option.bind_some, kz_ix, kz_leT, kz_leF, kz_ltT, kz_ltF, kz_lt0, kz_0le, kz_0ltT, kz_le0F, kz_eq0F, kz_10, kz_00, kz_11, kz_01, nI_clamp, nI_1, nI_add, pk_mul, kz_row, kz_ci_in]
      rw [Nat.sub_zero]
    · simp (disch := omega) only [↓reduceIte, kz_lt, Option.bind_some, kz_ix, kz_leT, kz_leF, kz_ltT, kz_ltF, kz_lt0, kz_0le, kz_0ltT, kz_le0F, kz_eq0F, kz_10, kz_00, kz_11, kz_01, nI_clamp, nI_1, nI_add, pk_mul, kz_col, kz_same']
    · simp (disch := omega) only [↓reduceIte, kz_lt, Option.bind_some, kz_ix, kz_leT, kz_leF, kz_ltT, kz_ltF, kz_lt0, kz_0le, kz_0ltT, kz_le0F, kz_eq0F, kz_10, kz_00, kz_11, kz_01, nI_clamp, nI_1, nI_add, pk_mul, kz_col, kz_same']
    · simp (disch := omega) only [↓reduceIte, kz_lt, Option.bind_some, kz_ix, kz_leT, kz_leF, kz_ltT, kz_ltF, kz_lt0, kz_0le, kz_0ltT, kz_le0F, kz_eq0F, kz_10, kz_00, kz_11, kz_01, nI_clamp, nI_1, nI_add, pk_mul, kz_col, kz_same']
    · simp (disch := omega) only [↓reduceIte, kz_lt, Option.bind_some, kz_ix, kz_leT, kz_leF, kz_ltT, kz_ltF, kz_lt0, kz_0le, kz_0ltT, kz_le0F, kz_eq0F, kz_10, kz_00, kz_11, kz_01, nI_clamp, nI_1, nI_add, pk_mul, kz_col, kz_same']
    · simp (disch := omega) only [↓reduceIte, kz_lt, Option.bind_some, kz_ix, kz_leT, kz_leF, kz_ltT, kz_ltF, kz_lt0, kz_0le, kz_0ltT, kz_le0F, kz_eq0F, kz_10, kz_00, kz_11, kz_01, nI_clamp, nI_1, nI_add, pk_mul, kz_same']
      exact hv z
  unfold f_X1_load
  rw [e9]
  simp (disch := omega) only [↓reduceIte, kz_lt, Option.bind_some, kz_ix, kz_leT, kz_leF, kz_ltT, kz_ltF, kz_lt0, kz_0le, kz_0ltT, kz_le0F, kz_eq0F, kz_10, kz_00, kz_11, kz_01, nI_clamp, nI_1, nI_add, pk_mul, kn2, kn3, kn4, kn5, kn6, kn7, kn8, kn9, kn10, kn16, kn20, kn24, kn30, kn32, kn36, kn40, kn41, kn42, kn48, kn54, kn60, kn61, kn64, kn69, kn70, kn99, kn100, kc0, kc1, kc2, kc3, kc4, kc5, kc6, kc7, kc8, kc9, kc10, kx0, kx1, kx2, kx3, kx4, kx5, kx6, kx7, kx8, kr0_0, kr0_1, kr0_2, kr0_3, kr0_4, kr0_5, kr0_6, kr0_7, kr0_8, kr0_9, kr1_1, kr1_2, kr1_3, kr1_4, kr1_5, kr7_6, kr7_7, kr7_8, kr7_9, kr7_10, kr7_11, kr7_12, kr7_13, kr7_14, kr7_15, kr7_16, kr16_1, kr16_2, kr19_1, kr19_2, kr22_1, kr22_2, kr25_6, kr25_7, kr25_8, kr25_9, kr25_10, kr25_11, kr25_12, kr25_13, kr25_14, kr25_15, kr25_16, kr34_1, kr34_2, kr37_1, kr37_2, kr40_1, kr40_2, kr43_2, kr43_3, kr44_0, kr44_1, kr44_4, kr46_0, kr48_0, kr50_0, kr52_0, kr54_0, kr56_0, kr60_3, kr60_4, kr63_0, kr63_1, kr63_2, kr66_0, kr66_1, kr66_2, kr66_3, kr66_4, kr67_0, kr70_0, kr70_1, kr70_2, kr72_1, kr72_2, kr72_3, kr72_4, kr72_5, kr72_6, kr72_7, kl2, kl3, kl4, kl5, kl6, kl8, kl9, kl10, kl11, kl12, kl13, kl14, kl15, kl17, kl18, kl20, kl21, kl23, kl24, kl26, kl27, kl28, kl29, kl30, kl31, kl32, kl33, kl35, kl36, kl38, kl39, kl41, kl42, kl45, kl47, kl49, kl51, kl53, kl55, kl57, kl58, kl59, kl61, kl62, kl64, kl65, kl68, kl69, kl71, kl73, kl74, kl75, kl76, hk1, hk2, kz_cok1, kp_ci_row (show R ≠ k + 1 by omega), kz_row (show R ≠ k by omega)]
  by_cases b : σ.1 R (st + 4 + 4) = 1
  · rw [if_pos b]
    exact fin 1 (Or.inr rfl) (fun _ => b.symm)
  · rw [if_neg b]
    exact fin 0 (Or.inl rfl) (fun z => by rcases z with z | z; exact z.symm; exact absurd z b)
