/-! ===== pure: the reference's row copied, its history, its slots ===== -/
theorem kp_set0 {σ : kf_St} {A : Nat} {B : Nat} {bo : Nat} (ao : Nat) : ∀ j, σ.1 A j = if ao ≤ j ∧ j < ao + 0 then σ.1 B (bo + (j - ao)) else σ.1 A j := fun j => by rw [if_neg (by omega)]
theorem kp_copies_l {σ : kf_St} : ∀ (m k : Nat), k + m = 70 → ∀ fuel, m < fuel → ∀ τ, kp_chM (fun r => r = 112) (fun _ => False) σ τ → (∀ j, τ.1 112 j = if 0 ≤ j ∧ j < 0 + k then σ.1 111 (0 + (j - 0)) else σ.1 112 j) → ∃ τ' n', f_X12_copies_2 fuel 77 (nI k) τ = f_X12_copies_2 (n' + 1) 77 (nI 70) τ' ∧ kp_chM (fun r => r = 112) (fun _ => False) σ τ' ∧ (∀ j, τ'.1 112 j = if 0 ≤ j ∧ j < 0 + 70 then σ.1 111 (0 + (j - 0)) else σ.1 112 j) := by
  intro m
  induction m with
  | zero =>
    intro k hk fuel hf τ h1 h2
    obtain ⟨n, rfl⟩ := kp_fuel (show 0 < fuel by omega)
    obtain rfl : k = 70 := by omega
    exact ⟨τ, n, rfl, h1, h2⟩
  | succ m ih =>
    intro k hk fuel hf τ h1 h2
    obtain ⟨n, rfl⟩ := kp_fuel (show 0 < fuel by omega)
    have e : f_X12_copies_2 (n + 1) 77 (nI k) τ = f_X12_copies_2 n 77 (nI (k + 1)) (kf_wi τ 112 (0 + k) (σ.1 111 (0 + k))) := by
      show f_X12_copies_2_s (f_X12_copies_2 n) 77 (nI k) τ = _
      unfold f_X12_copies_2_s
      simp (disch := omega) only [↓reduceIte, kz_lt, Option.bind_some, kz_ix, kz_leT, kz_leF, kz_ltT, kz_ltF, kz_lt0, kz_0le, kz_0ltT, kz_le0F, kz_eq0F, kz_10, kz_00, kz_11, kz_01, nI_clamp, nI_1, nI_add, pk_mul, kn2, kn3, kn4, kn5, kn6, kn7, kn8, kn9, kn10, kn16, kn20, kn24, kn30, kn32, kn36, kn40, kn41, kn42, kn48, kn54, kn60, kn61, kn64, kn69, kn70, kn99, kn100, kc0, kc1, kc2, kc3, kc4, kc5, kc6, kc7, kc8, kc9, kc10, kx0, kx1, kx2, kx3, kx4, kx5, kx6, kx7, kx8, kr77_1, kr77_3, kr77_5, kr77_6, kr77_7, kr77_8, kr77_9, kr77_21, kr77_22, kr77_23, kr77_24, kr77_25, kr77_26, kr77_27, kr77_28, kr77_29, kr77_30, kr77_31, kr77_32, kr77_33, kr77_34, kr77_35, kr77_36, kr77_38, kr77_39, kr77_40, kr77_41, kr77_42, kr77_44, kr77_45, kr77_46, kr77_48, kr77_49, kr77_51, kr77_52, kr77_55, kr77_57, kr77_58, kr77_59, kr77_61, kr77_62, kr77_63, kr77_64, kr77_65, kl78, kl79, kl80, kl81, kl82, kl83, kl84, kl85, kl86, kl87, kl88, kl89, kl90, kl91, kl92, kl93, kl94, kl95, kl96, kl97, kl98, kl99, kl100, kl101, kl102, kl103, kl104, kl105, kl106, kl107, kl108, kl109, kl110, kl111, kl112, kl113, kl114, kl115, kl116, kl117, kl118, kl119, kl120, kl121, Nat.zero_add, h1.1 111 (by decide) (by decide)]
    rw [e]
    refine ih (k + 1) (by omega) n (by omega) _ (kp_chM.wi h1 rfl (by decide)) (fun j => ?_)
    by_cases e1 : j = 0 + k
    · rw [e1, kp_wi_same, if_pos ⟨by omega, by omega⟩, show 0 + (0 + k - 0) = 0 + k by omega]
    · rw [kp_wi_col e1, h2 j]
      by_cases e2 : 0 ≤ j ∧ j < 0 + k
      · rw [if_pos e2, if_pos ⟨e2.1, by omega⟩]
      · rw [if_neg e2, if_neg (fun x => e2 ⟨x.1, by omega⟩)]
theorem kp_copies {T : kp_T} {lv : Nat} {σ : kf_St} (h : kp_MT T lv σ) : ∃ σ', f_X12_copies 77 σ = some σ' ∧ kp_chM (fun r => r = 112) (fun j => j = 53 ∨ j = 54) σ σ' ∧ (∀ j, j < 70 → σ'.1 112 j = σ.1 111 j) ∧ σ'.1 77 53 = nI (kt_se T) ∧ σ'.1 77 54 = 0 := by
  have hl := h.1
  obtain ⟨τ, n, e, h1, h2⟩ := kp_copies_l (σ := σ) 70 0 rfl kf_F (kf_F_gt (by decide)) σ kp_chM.rf (kp_set0 0)
  have hτ := h.chM h1 (fun r e => by omega) (fun x => x)
  have e' : f_X12_copies 77 σ = f_X12_copies_2_s (f_X12_copies_2 n) 77 (nI 70) τ := e
  rw [e']
  unfold f_X12_copies_2_s
  simp (disch := omega) only [↓reduceIte, kz_lt, Option.bind_some, kz_ix, kz_leT, kz_leF, kz_ltT, kz_ltF, kz_lt0, kz_0le, kz_0ltT, kz_le0F, kz_eq0F, kz_10, kz_00, kz_11, kz_01, nI_clamp, nI_1, nI_add, pk_mul, kn2, kn3, kn4, kn5, kn6, kn7, kn8, kn9, kn10, kn16, kn20, kn24, kn30, kn32, kn36, kn40, kn41, kn42, kn48, kn54, kn60, kn61, kn64, kn69, kn70, kn99, kn100, kc0, kc1, kc2, kc3, kc4, kc5, kc6, kc7, kc8, kc9, kc10, kx0, kx1, kx2, kx3, kx4, kx5, kx6, kx7, kx8, kr77_1, kr77_3, kr77_5, kr77_6, kr77_7, kr77_8, kr77_9, kr77_21, kr77_22, kr77_23, kr77_24, kr77_25, kr77_26, kr77_27, kr77_28, kr77_29, kr77_30, kr77_31, kr77_32, kr77_33, kr77_34, kr77_35, kr77_36, kr77_38, kr77_39, kr77_40, kr77_41, kr77_42, kr77_44, kr77_45, kr77_46, kr77_48, kr77_49, kr77_51, kr77_52, kr77_55, kr77_57, kr77_58, kr77_59, kr77_61, kr77_62, kr77_63, kr77_64, kr77_65, kl78, kl79, kl80, kl81, kl82, kl83, kl84, kl85, kl86, kl87, kl88, kl89, kl90, kl91, kl92, kl93, kl94, kl95, kl96, kl97, kl98, kl99, kl100, kl101, kl102, kl103, kl104, kl105, kl106, kl107, kl108, kl109, kl110, kl111, kl112, kl113, kl114, kl115, kl116, kl117, kl118, kl119, kl120, kl121, hτ.2.1, hτ.2.2.2.1.2.2]
  refine ⟨_, rfl, kp_chM.ws (kp_chM.ws (h1.mono (fun r h => h) (fun j h => h.elim)) (Or.inl rfl)) (Or.inr rfl), fun j hj => ?_, rfl, rfl⟩
  rw [kp_wi_row (by decide), kp_wi_row (by decide), h2 j, if_pos ⟨Nat.zero_le _, by omega⟩, Nat.zero_add, Nat.sub_zero]
theorem kp_copiesStill {T : kp_T} {lv : Nat} {σ : kf_St} (h : kp_MT T lv σ) : ∃ σ', f_X12_copiesStill 77 σ = some σ' ∧ kp_chM (fun r => r = 112) (fun j => j = 53 ∨ j = 54) σ σ' ∧ (∀ j, j < 70 → σ'.1 112 j = σ.1 111 j) ∧ σ'.1 77 54 = 1 := by
  obtain ⟨σ', h1, h2, h3, -, -⟩ := kp_copies h
  unfold f_X12_copiesStill
  rw [h1, Option.bind_some, kz_lt]
  exact ⟨_, rfl, kp_chM.ws h2 (Or.inr rfl), fun j hj => by rw [kp_wi_row (by decide)]; exact h3 j hj, rfl⟩
theorem kp_keepsRow_l {σ : kf_St} : ∀ (m k : Nat), k + m = 70 → ∀ fuel, m < fuel → ∀ τ, kp_chM (fun r => r = 111) (fun _ => False) σ τ → (∀ j, τ.1 111 j = if 0 ≤ j ∧ j < 0 + k then σ.1 112 (0 + (j - 0)) else σ.1 111 j) → ∃ τ' n', f_X12_keepsRow_2 fuel 77 (nI k) τ = f_X12_keepsRow_2 (n' + 1) 77 (nI 70) τ' ∧ kp_chM (fun r => r = 111) (fun _ => False) σ τ' ∧ (∀ j, τ'.1 111 j = if 0 ≤ j ∧ j < 0 + 70 then σ.1 112 (0 + (j - 0)) else σ.1 111 j) := by
  intro m
  induction m with
  | zero =>
    intro k hk fuel hf τ h1 h2
    obtain ⟨n, rfl⟩ := kp_fuel (show 0 < fuel by omega)
    obtain rfl : k = 70 := by omega
    exact ⟨τ, n, rfl, h1, h2⟩
  | succ m ih =>
    intro k hk fuel hf τ h1 h2
    obtain ⟨n, rfl⟩ := kp_fuel (show 0 < fuel by omega)
    have e : f_X12_keepsRow_2 (n + 1) 77 (nI k) τ = f_X12_keepsRow_2 n 77 (nI (k + 1)) (kf_wi τ 111 (0 + k) (σ.1 112 (0 + k))) := by
      show f_X12_keepsRow_2_s (f_X12_keepsRow_2 n) 77 (nI k) τ = _
      unfold f_X12_keepsRow_2_s
      simp (disch := omega) only [↓reduceIte, kz_lt, Option.bind_some, kz_ix, kz_leT, kz_leF, kz_ltT, kz_ltF, kz_lt0, kz_0le, kz_0ltT, kz_le0F, kz_eq0F, kz_10, kz_00, kz_11, kz_01, nI_clamp, nI_1, nI_add, pk_mul, kn2, kn3, kn4, kn5, kn6, kn7, kn8, kn9, kn10, kn16, kn20, kn24, kn30, kn32, kn36, kn40, kn41, kn42, kn48, kn54, kn60, kn61, kn64, kn69, kn70, kn99, kn100, kc0, kc1, kc2, kc3, kc4, kc5, kc6, kc7, kc8, kc9, kc10, kx0, kx1, kx2, kx3, kx4, kx5, kx6, kx7, kx8, kr77_1, kr77_3, kr77_5, kr77_6, kr77_7, kr77_8, kr77_9, kr77_21, kr77_22, kr77_23, kr77_24, kr77_25, kr77_26, kr77_27, kr77_28, kr77_29, kr77_30, kr77_31, kr77_32, kr77_33, kr77_34, kr77_35, kr77_36, kr77_38, kr77_39, kr77_40, kr77_41, kr77_42, kr77_44, kr77_45, kr77_46, kr77_48, kr77_49, kr77_51, kr77_52, kr77_55, kr77_57, kr77_58, kr77_59, kr77_61, kr77_62, kr77_63, kr77_64, kr77_65, kl78, kl79, kl80, kl81, kl82, kl83, kl84, kl85, kl86, kl87, kl88, kl89, kl90, kl91, kl92, kl93, kl94, kl95, kl96, kl97, kl98, kl99, kl100, kl101, kl102, kl103, kl104, kl105, kl106, kl107, kl108, kl109, kl110, kl111, kl112, kl113, kl114, kl115, kl116, kl117, kl118, kl119, kl120, kl121, Nat.zero_add, h1.1 112 (by decide) (by decide)]
    rw [e]
    refine ih (k + 1) (by omega) n (by omega) _ (kp_chM.wi h1 rfl (by decide)) (fun j => ?_)
    by_cases e1 : j = 0 + k
    · rw [e1, kp_wi_same, if_pos ⟨by omega, by omega⟩, show 0 + (0 + k - 0) = 0 + k by omega]
    · rw [kp_wi_col e1, h2 j]
      by_cases e2 : 0 ≤ j ∧ j < 0 + k
      · rw [if_pos e2, if_pos ⟨e2.1, by omega⟩]
      · rw [if_neg e2, if_neg (fun x => e2 ⟨x.1, by omega⟩)]
theorem kp_keepsRow (σ : kf_St) : ∃ σ', f_X12_keepsRow 77 σ = some σ' ∧ kp_chM (fun r => r = 111) (fun _ => False) σ σ' ∧ (∀ j, j < 70 → σ'.1 111 j = σ.1 112 j) := by
  obtain ⟨τ, n, e, h1, h2⟩ := kp_keepsRow_l (σ := σ) 70 0 rfl kf_F (kf_F_gt (by decide)) σ kp_chM.rf (kp_set0 0)
  have e' : f_X12_keepsRow 77 σ = f_X12_keepsRow_2_s (f_X12_keepsRow_2 n) 77 (nI 70) τ := e
  rw [e']
  unfold f_X12_keepsRow_2_s
  simp (disch := omega) only [↓reduceIte, kz_lt, Option.bind_some, kz_ix, kz_leT, kz_leF, kz_ltT, kz_ltF, kz_lt0, kz_0le, kz_0ltT, kz_le0F, kz_eq0F, kz_10, kz_00, kz_11, kz_01, nI_clamp, nI_1, nI_add, pk_mul, kn2, kn3, kn4, kn5, kn6, kn7, kn8, kn9, kn10, kn16, kn20, kn24, kn30, kn32, kn36, kn40, kn41, kn42, kn48, kn54, kn60, kn61, kn64, kn69, kn70, kn99, kn100, kc0, kc1, kc2, kc3, kc4, kc5, kc6, kc7, kc8, kc9, kc10, kx0, kx1, kx2, kx3, kx4, kx5, kx6, kx7, kx8, kr77_1, kr77_3, kr77_5, kr77_6, kr77_7, kr77_8, kr77_9, kr77_21, kr77_22, kr77_23, kr77_24, kr77_25, kr77_26, kr77_27, kr77_28, kr77_29, kr77_30, kr77_31, kr77_32, kr77_33, kr77_34, kr77_35, kr77_36, kr77_38, kr77_39, kr77_40, kr77_41, kr77_42, kr77_44, kr77_45, kr77_46, kr77_48, kr77_49, kr77_51, kr77_52, kr77_55, kr77_57, kr77_58, kr77_59, kr77_61, kr77_62, kr77_63, kr77_64, kr77_65, kl78, kl79, kl80, kl81, kl82, kl83, kl84, kl85, kl86, kl87, kl88, kl89, kl90, kl91, kl92, kl93, kl94, kl95, kl96, kl97, kl98, kl99, kl100, kl101, kl102, kl103, kl104, kl105, kl106, kl107, kl108, kl109, kl110, kl111, kl112, kl113, kl114, kl115, kl116, kl117, kl118, kl119, kl120, kl121]
  refine ⟨τ, rfl, h1, fun j hj => ?_⟩
  rw [h2 j, if_pos ⟨Nat.zero_le _, by omega⟩, Nat.zero_add, Nat.sub_zero]
/-- the history -/
def kp_HM (σ : kf_St) (n : Nat) (H : Nat → kp_S) : Prop := n ≤ 40 ∧ σ.1 77 56 = nI n ∧ ∀ i, i < n → kp_fS (fun k => σ.1 114 (70 * i + k)) (H i)
def kp_pn (n : Nat) : Nat := if n = 40 then 40 else n + 1
def kp_pu (n : Nat) (H : Nat → kp_S) (S : kp_S) : Nat → kp_S := fun i => if n = 40 then (if i < 39 then H (i + 1) else S) else (if i < n then H i else S)
theorem kp_rec51 {σ : kf_St} {u : Nat} (hu : u < 40) (hn : σ.1 77 56 = nI u) : ∀ (m k : Nat), k + m = 70 → ∀ fuel, m < fuel → ∀ τ, kp_chM (fun r => r = 114) (fun _ => False) σ τ → (∀ j, τ.1 114 j = if 70 * u ≤ j ∧ j < 70 * u + k then σ.1 111 (0 + (j - 70 * u)) else σ.1 114 j) → ∃ τ' n', f_X12_records_51 fuel 77 (nI k) τ = f_X12_records_51 (n' + 1) 77 (nI 70) τ' ∧ kp_chM (fun r => r = 114) (fun _ => False) σ τ' ∧ (∀ j, τ'.1 114 j = if 70 * u ≤ j ∧ j < 70 * u + 70 then σ.1 111 (0 + (j - 70 * u)) else σ.1 114 j) := by
  intro m
  induction m with
  | zero =>
    intro k hk fuel hf τ h1 h2
    obtain ⟨n, rfl⟩ := kp_fuel (show 0 < fuel by omega)
    obtain rfl : k = 70 := by omega
    exact ⟨τ, n, rfl, h1, h2⟩
  | succ m ih =>
    intro k hk fuel hf τ h1 h2
    obtain ⟨n, rfl⟩ := kp_fuel (show 0 < fuel by omega)
    have e : f_X12_records_51 (n + 1) 77 (nI k) τ = f_X12_records_51 n 77 (nI (k + 1)) (kf_wi τ 114 (70 * u + k) (σ.1 111 (0 + k))) := by
      show f_X12_records_51_s (f_X12_records_51 n) 77 (nI k) τ = _
      unfold f_X12_records_51_s
      simp (disch := omega) only [↓reduceIte, kz_lt, Option.bind_some, kz_ix, kz_leT, kz_leF, kz_ltT, kz_ltF, kz_lt0, kz_0le, kz_0ltT, kz_le0F, kz_eq0F, kz_10, kz_00, kz_11, kz_01, nI_clamp, nI_1, nI_add, pk_mul, kn2, kn3, kn4, kn5, kn6, kn7, kn8, kn9, kn10, kn16, kn20, kn24, kn30, kn32, kn36, kn40, kn41, kn42, kn48, kn54, kn60, kn61, kn64, kn69, kn70, kn99, kn100, kc0, kc1, kc2, kc3, kc4, kc5, kc6, kc7, kc8, kc9, kc10, kx0, kx1, kx2, kx3, kx4, kx5, kx6, kx7, kx8, kr77_1, kr77_3, kr77_5, kr77_6, kr77_7, kr77_8, kr77_9, kr77_21, kr77_22, kr77_23, kr77_24, kr77_25, kr77_26, kr77_27, kr77_28, kr77_29, kr77_30, kr77_31, kr77_32, kr77_33, kr77_34, kr77_35, kr77_36, kr77_38, kr77_39, kr77_40, kr77_41, kr77_42, kr77_44, kr77_45, kr77_46, kr77_48, kr77_49, kr77_51, kr77_52, kr77_55, kr77_57, kr77_58, kr77_59, kr77_61, kr77_62, kr77_63, kr77_64, kr77_65, kl78, kl79, kl80, kl81, kl82, kl83, kl84, kl85, kl86, kl87, kl88, kl89, kl90, kl91, kl92, kl93, kl94, kl95, kl96, kl97, kl98, kl99, kl100, kl101, kl102, kl103, kl104, kl105, kl106, kl107, kl108, kl109, kl110, kl111, kl112, kl113, kl114, kl115, kl116, kl117, kl118, kl119, kl120, kl121, Nat.zero_add, h1.1 111 (by decide) (by decide), show τ.1 77 56 = nI u from (h1.2.1 56 (fun x => x)).trans hn]
    rw [e]
    refine ih (k + 1) (by omega) n (by omega) _ (kp_chM.wi h1 rfl (by decide)) (fun j => ?_)
    by_cases e1 : j = 70 * u + k
    · rw [e1, kp_wi_same, if_pos ⟨by omega, by omega⟩, show 0 + (70 * u + k - 70 * u) = 0 + k by omega]
    · rw [kp_wi_col e1, h2 j]
      by_cases e2 : 70 * u ≤ j ∧ j < 70 * u + k
      · rw [if_pos e2, if_pos ⟨e2.1, by omega⟩]
      · rw [if_neg e2, if_neg (fun x => e2 ⟨x.1, by omega⟩)]
theorem kp_rec11 {σ : kf_St} : ∀ (m k : Nat), k + m = 2730 → ∀ fuel, m < fuel → ∀ τ, kp_chM (fun r => r = 114) (fun _ => False) σ τ → (∀ j, τ.1 114 j = if j < k then σ.1 114 (j + 70) else σ.1 114 j) → ∃ τ' n', f_X12_records_11 fuel 77 (nI k) τ = f_X12_records_11 (n' + 1) 77 (nI 2730) τ' ∧ kp_chM (fun r => r = 114) (fun _ => False) σ τ' ∧ (∀ j, τ'.1 114 j = if j < 2730 then σ.1 114 (j + 70) else σ.1 114 j) := by
  intro m
  induction m with
  | zero =>
    intro k hk fuel hf τ h1 h2
    obtain ⟨n, rfl⟩ := kp_fuel (show 0 < fuel by omega)
    obtain rfl : k = 2730 := by omega
    exact ⟨τ, n, rfl, h1, h2⟩
  | succ m ih =>
    intro k hk fuel hf τ h1 h2
    obtain ⟨n, rfl⟩ := kp_fuel (show 0 < fuel by omega)
    have e : f_X12_records_11 (n + 1) 77 (nI k) τ = f_X12_records_11 n 77 (nI (k + 1)) (kf_wi τ 114 k (σ.1 114 (k + 70))) := by
      show f_X12_records_11_s (f_X12_records_11 n) 77 (nI k) τ = _
      unfold f_X12_records_11_s
      simp (disch := omega) only [↓reduceIte, kz_lt, Option.bind_some, kz_ix, kz_leT, kz_leF, kz_ltT, kz_ltF, kz_lt0, kz_0le, kz_0ltT, kz_le0F, kz_eq0F, kz_10, kz_00, kz_11, kz_01, nI_clamp, nI_1, nI_add, pk_mul, kn2, kn3, kn4, kn5, kn6, kn7, kn8, kn9, kn10, kn16, kn20, kn24, kn30, kn32, kn36, kn40, kn41, kn42, kn48, kn54, kn60, kn61, kn64, kn69, kn70, kn99, kn100, kc0, kc1, kc2, kc3, kc4, kc5, kc6, kc7, kc8, kc9, kc10, kx0, kx1, kx2, kx3, kx4, kx5, kx6, kx7, kx8, kr77_1, kr77_3, kr77_5, kr77_6, kr77_7, kr77_8, kr77_9, kr77_21, kr77_22, kr77_23, kr77_24, kr77_25, kr77_26, kr77_27, kr77_28, kr77_29, kr77_30, kr77_31, kr77_32, kr77_33, kr77_34, kr77_35, kr77_36, kr77_38, kr77_39, kr77_40, kr77_41, kr77_42, kr77_44, kr77_45, kr77_46, kr77_48, kr77_49, kr77_51, kr77_52, kr77_55, kr77_57, kr77_58, kr77_59, kr77_61, kr77_62, kr77_63, kr77_64, kr77_65, kl78, kl79, kl80, kl81, kl82, kl83, kl84, kl85, kl86, kl87, kl88, kl89, kl90, kl91, kl92, kl93, kl94, kl95, kl96, kl97, kl98, kl99, kl100, kl101, kl102, kl103, kl104, kl105, kl106, kl107, kl108, kl109, kl110, kl111, kl112, kl113, kl114, kl115, kl116, kl117, kl118, kl119, kl120, kl121, show (2730 : Int32) = nI 2730 from rfl]
      rw [h2 (k + 70), if_neg (by omega)]
    rw [e]
    refine ih (k + 1) (by omega) n (by omega) _ (kp_chM.wi h1 rfl (by decide)) (fun j => ?_)
    by_cases e1 : j = k
    · rw [e1, kp_wi_same, if_pos (by omega)]
    · rw [kp_wi_col e1, h2 j]
      by_cases e2 : j < k
      · rw [if_pos e2, if_pos (by omega)]
      · rw [if_neg e2, if_neg (by omega)]
theorem kp_rec49 {σ : kf_St} {u : Nat} (hu : u < 40) (hn : σ.1 77 56 = nI u) : ∃ σ', f_X12_records_49 77 σ = some σ' ∧ kp_chM (fun r => r = 111 ∨ r = 114) (fun j => j = 56) σ σ' ∧ σ'.1 77 56 = nI (u + 1) ∧ (∀ j, σ'.1 114 j = if 70 * u ≤ j ∧ j < 70 * u + 70 then σ.1 111 (j - 70 * u) else σ.1 114 j) ∧ (∀ j, j < 70 → σ'.1 111 j = σ.1 112 j) := by
  obtain ⟨τ, n, e, h1, h2⟩ := kp_rec51 (σ := σ) hu hn 70 0 rfl kf_F (kf_F_gt (by decide)) σ kp_chM.rf (kp_set0 _)
  have e' : f_X12_records_49 77 σ = f_X12_records_51_s (f_X12_records_51 n) 77 (nI 70) τ := e
  have hn2 : τ.1 77 56 = nI u := (h1.2.1 56 (fun x => x)).trans hn
  obtain ⟨τ2, a1, a2, a3⟩ := kp_keepsRow (kf_wi τ 77 56 (nI (u + 1)))
  rw [e']
  unfold f_X12_records_51_s
  simp (disch := omega) only [↓reduceIte, kz_lt, Option.bind_some, kz_ix, kz_leT, kz_leF, kz_ltT, kz_ltF, kz_lt0, kz_0le, kz_0ltT, kz_le0F, kz_eq0F, kz_10, kz_00, kz_11, kz_01, nI_clamp, nI_1, nI_add, pk_mul, kn2, kn3, kn4, kn5, kn6, kn7, kn8, kn9, kn10, kn16, kn20, kn24, kn30, kn32, kn36, kn40, kn41, kn42, kn48, kn54, kn60, kn61, kn64, kn69, kn70, kn99, kn100, kc0, kc1, kc2, kc3, kc4, kc5, kc6, kc7, kc8, kc9, kc10, kx0, kx1, kx2, kx3, kx4, kx5, kx6, kx7, kx8, kr77_1, kr77_3, kr77_5, kr77_6, kr77_7, kr77_8, kr77_9, kr77_21, kr77_22, kr77_23, kr77_24, kr77_25, kr77_26, kr77_27, kr77_28, kr77_29, kr77_30, kr77_31, kr77_32, kr77_33, kr77_34, kr77_35, kr77_36, kr77_38, kr77_39, kr77_40, kr77_41, kr77_42, kr77_44, kr77_45, kr77_46, kr77_48, kr77_49, kr77_51, kr77_52, kr77_55, kr77_57, kr77_58, kr77_59, kr77_61, kr77_62, kr77_63, kr77_64, kr77_65, kl78, kl79, kl80, kl81, kl82, kl83, kl84, kl85, kl86, kl87, kl88, kl89, kl90, kl91, kl92, kl93, kl94, kl95, kl96, kl97, kl98, kl99, kl100, kl101, kl102, kl103, kl104, kl105, kl106, kl107, kl108, kl109, kl110, kl111, kl112, kl113, kl114, kl115, kl116, kl117, kl118, kl119, kl120, kl121, hn2, a1]
  refine ⟨τ2, rfl, ?_, ?_, fun j => ?_, fun j hj => ?_⟩
  · exact (kp_chM.ws (J := fun j => j = 56) (h1.mono (fun r h => Or.inr h) (fun j h => h.elim)) rfl).tr (a2.mono (fun r h => Or.inl h) (fun j h => h.elim))
  · rw [a2.2.1 56 (fun x => x), kp_wi_same]
  · rw [a2.1 114 (by decide) (by decide), kp_wi_row (by decide), h2 j]
    by_cases b : 70 * u ≤ j ∧ j < 70 * u + 70
    · rw [if_pos b, if_pos b, Nat.zero_add]
    · rw [if_neg b, if_neg b]
  · rw [a3 j hj, kp_wi_row (by decide), h1.1 112 (by decide) (by decide)]
theorem kp_records {σ : kf_St} {n : Nat} {H : Nat → kp_S} {S : kp_S} (h : kp_HM σ n H) (hS : kp_fS (σ.1 111) S) : ∃ σ', f_X12_records 77 σ = some σ' ∧ kp_chM (fun r => r = 111 ∨ r = 114) (fun j => j = 56) σ σ' ∧ kp_HM σ' (kp_pn n) (kp_pu n H S) ∧ (∀ j, j < 70 → σ'.1 111 j = σ.1 112 j) := by
  obtain ⟨hn, h2, h3⟩ := h
  unfold f_X12_records kp_pn
  by_cases b : n = 40
  · subst b
    rw [h2, if_pos (show nI 40 = 40 from rfl), if_pos rfl]
    obtain ⟨τ, u, e, a1, a2⟩ := kp_rec11 (σ := σ) 2730 0 rfl kf_F (kf_F_gt (by decide)) σ kp_chM.rf (fun j => by rw [if_neg (Nat.not_lt_zero j)])
    have e' : f_X12_records_11 kf_F 77 0 σ = f_X12_records_11_s (f_X12_records_11 u) 77 (nI 2730) τ := e
    have hn2 : τ.1 77 56 = nI 40 := (a1.2.1 56 (fun x => x)).trans h2
    obtain ⟨σ', c1, c2, c3, c4, c5⟩ := kp_rec49 (σ := kf_wi τ 77 56 (nI 39)) (u := 39) (by decide) (kp_wi_same _ _ _ _)
    rw [e']
    unfold f_X12_records_11_s
    simp (disch := omega) only [↓reduceIte, kz_lt, Option.bind_some, kz_ix, kz_leT, kz_leF, kz_ltT, kz_ltF, kz_lt0, kz_0le, kz_0ltT, kz_le0F, kz_eq0F, kz_10, kz_00, kz_11, kz_01, nI_clamp, nI_1, nI_add, pk_mul, kn2, kn3, kn4, kn5, kn6, kn7, kn8, kn9, kn10, kn16, kn20, kn24, kn30, kn32, kn36, kn40, kn41, kn42, kn48, kn54, kn60, kn61, kn64, kn69, kn70, kn99, kn100, kc0, kc1, kc2, kc3, kc4, kc5, kc6, kc7, kc8, kc9, kc10, kx0, kx1, kx2, kx3, kx4, kx5, kx6, kx7, kx8, kr77_1, kr77_3, kr77_5, kr77_6, kr77_7, kr77_8, kr77_9, kr77_21, kr77_22, kr77_23, kr77_24, kr77_25, kr77_26, kr77_27, kr77_28, kr77_29, kr77_30, kr77_31, kr77_32, kr77_33, kr77_34, kr77_35, kr77_36, kr77_38, kr77_39, kr77_40, kr77_41, kr77_42, kr77_44, kr77_45, kr77_46, kr77_48, kr77_49, kr77_51, kr77_52, kr77_55, kr77_57, kr77_58, kr77_59, kr77_61, kr77_62, kr77_63, kr77_64, kr77_65, kl78, kl79, kl80, kl81, kl82, kl83, kl84, kl85, kl86, kl87, kl88, kl89, kl90, kl91, kl92, kl93, kl94, kl95, kl96, kl97, kl98, kl99, kl100, kl101, kl102, kl103, kl104, kl105, kl106, kl107, kl108, kl109, kl110, kl111, kl112, kl113, kl114, kl115, kl116, kl117, kl118, kl119, kl120, kl121, show (2730 : Int32) = nI 2730 from rfl, hn2, show nI 40 - 1 = nI 39 from rfl, c1]
    refine ⟨σ', rfl, (kp_chM.ws (S := fun r => r = 111 ∨ r = 114) (J := fun j => j = 56) (a1.mono (fun r h => Or.inr h) (fun j h => h.elim)) rfl).tr c2, ⟨Nat.le_refl _, c3, fun i hi => ?_⟩, fun j hj => ?_⟩
    · show kp_fS _ (if 40 = 40 then (if i < 39 then H (i + 1) else S) else _)
      rw [if_pos rfl]
      by_cases bi : i < 39
      · rw [if_pos bi]
        refine (h3 (i + 1) (by omega)).ch (fun j hj => ?_)
        show σ'.1 114 (70 * i + j) = σ.1 114 (70 * (i + 1) + j)
        rw [c4, if_neg (by omega), kp_wi_row (by decide), a2, if_pos (by omega), show 70 * i + j + 70 = 70 * (i + 1) + j by omega]
      · rw [if_neg bi]
        refine hS.ch (fun j hj => ?_)
        show σ'.1 114 (70 * i + j) = σ.1 111 j
        rw [c4, if_pos (by omega), kp_wi_row (by decide), a1.1 111 (by decide) (by decide), show 70 * i + j - 70 * 39 = j by omega]
    · rw [c5 j hj, kp_wi_row (by decide), a1.1 112 (by decide) (by decide)]
  · rw [h2, if_neg (show ¬ nI n = 40 from fun x => b ((nI_eq (b := 40) (by omega) (by decide)).mp x)), if_neg b]
    obtain ⟨σ', c1, c2, c3, c4, c5⟩ := kp_rec49 (σ := σ) (u := n) (by omega) h2
    refine ⟨σ', c1, c2, ⟨by omega, c3, fun i hi => ?_⟩, c5⟩
    show kp_fS _ (if n = 40 then _ else (if i < n then H i else S))
    rw [if_neg b]
    by_cases bi : i < n
    · rw [if_pos bi]
      refine (h3 i bi).ch (fun j hj => ?_)
      show σ'.1 114 (70 * i + j) = σ.1 114 (70 * i + j)
      rw [c4, if_neg (by omega)]
    · rw [if_neg bi]
      refine hS.ch (fun j hj => ?_)
      show σ'.1 114 (70 * i + j) = σ.1 111 j
      rw [c4, if_pos (by omega), show 70 * i + j - 70 * n = j by rw [show i = n by omega]; omega]
theorem kp_undo21 {σ : kf_St} {u : Nat} (hu : u < 40) (hn : σ.1 77 56 = nI u) : ∀ (m k : Nat), k + m = 70 → ∀ fuel, m < fuel → ∀ τ, kp_chM (fun r => r = 111) (fun _ => False) σ τ → (∀ j, τ.1 111 j = if 0 ≤ j ∧ j < 0 + k then σ.1 114 (70 * u + (j - 0)) else σ.1 111 j) → ∃ τ' n', f_X12_undo_21 fuel 77 (nI k) τ = f_X12_undo_21 (n' + 1) 77 (nI 70) τ' ∧ kp_chM (fun r => r = 111) (fun _ => False) σ τ' ∧ (∀ j, τ'.1 111 j = if 0 ≤ j ∧ j < 0 + 70 then σ.1 114 (70 * u + (j - 0)) else σ.1 111 j) := by
  intro m
  induction m with
  | zero =>
    intro k hk fuel hf τ h1 h2
    obtain ⟨n, rfl⟩ := kp_fuel (show 0 < fuel by omega)
    obtain rfl : k = 70 := by omega
    exact ⟨τ, n, rfl, h1, h2⟩
  | succ m ih =>
    intro k hk fuel hf τ h1 h2
    obtain ⟨n, rfl⟩ := kp_fuel (show 0 < fuel by omega)
    have e : f_X12_undo_21 (n + 1) 77 (nI k) τ = f_X12_undo_21 n 77 (nI (k + 1)) (kf_wi τ 111 (0 + k) (σ.1 114 (70 * u + k))) := by
      show f_X12_undo_21_s (f_X12_undo_21 n) 77 (nI k) τ = _
      unfold f_X12_undo_21_s
      simp (disch := omega) only [↓reduceIte, kz_lt, Option.bind_some, kz_ix, kz_leT, kz_leF, kz_ltT, kz_ltF, kz_lt0, kz_0le, kz_0ltT, kz_le0F, kz_eq0F, kz_10, kz_00, kz_11, kz_01, nI_clamp, nI_1, nI_add, pk_mul, kn2, kn3, kn4, kn5, kn6, kn7, kn8, kn9, kn10, kn16, kn20, kn24, kn30, kn32, kn36, kn40, kn41, kn42, kn48, kn54, kn60, kn61, kn64, kn69, kn70, kn99, kn100, kc0, kc1, kc2, kc3, kc4, kc5, kc6, kc7, kc8, kc9, kc10, kx0, kx1, kx2, kx3, kx4, kx5, kx6, kx7, kx8, kr77_1, kr77_3, kr77_5, kr77_6, kr77_7, kr77_8, kr77_9, kr77_21, kr77_22, kr77_23, kr77_24, kr77_25, kr77_26, kr77_27, kr77_28, kr77_29, kr77_30, kr77_31, kr77_32, kr77_33, kr77_34, kr77_35, kr77_36, kr77_38, kr77_39, kr77_40, kr77_41, kr77_42, kr77_44, kr77_45, kr77_46, kr77_48, kr77_49, kr77_51, kr77_52, kr77_55, kr77_57, kr77_58, kr77_59, kr77_61, kr77_62, kr77_63, kr77_64, kr77_65, kl78, kl79, kl80, kl81, kl82, kl83, kl84, kl85, kl86, kl87, kl88, kl89, kl90, kl91, kl92, kl93, kl94, kl95, kl96, kl97, kl98, kl99, kl100, kl101, kl102, kl103, kl104, kl105, kl106, kl107, kl108, kl109, kl110, kl111, kl112, kl113, kl114, kl115, kl116, kl117, kl118, kl119, kl120, kl121, Nat.zero_add, h1.1 114 (by decide) (by decide), show τ.1 77 56 = nI u from (h1.2.1 56 (fun x => x)).trans hn]
    rw [e]
    refine ih (k + 1) (by omega) n (by omega) _ (kp_chM.wi h1 rfl (by decide)) (fun j => ?_)
    by_cases e1 : j = 0 + k
    · rw [e1, kp_wi_same, if_pos ⟨by omega, by omega⟩, show 70 * u + (0 + k - 0) = 70 * u + k by omega]
    · rw [kp_wi_col e1, h2 j]
      by_cases e2 : 0 ≤ j ∧ j < 0 + k
      · rw [if_pos e2, if_pos ⟨e2.1, by omega⟩]
      · rw [if_neg e2, if_neg (fun x => e2 ⟨x.1, by omega⟩)]
/-- undo -/
theorem kp_undoM {σ : kf_St} {n : Nat} {H : Nat → kp_S} (h : kp_HM σ n H) : ∃ σ', f_X12_undo 77 σ = some (if n = 0 then 0 else 1, σ') ∧ kp_chM (fun r => r = 111) (fun j => j = 56) σ σ' ∧ kp_HM σ' (n - 1) H ∧ (n = 0 → σ' = σ) ∧ (∀ u, n = u + 1 → kp_fS (σ'.1 111) (H u)) := by
  obtain ⟨hn, h2, h3⟩ := h
  unfold f_X12_undo
  cases n with
  | zero =>
    rw [h2, if_pos (show nI 0 = 0 from rfl), if_pos rfl]
    exact ⟨σ, rfl, kp_chM.rf, ⟨by omega, h2, h3⟩, fun _ => rfl, fun u e => by omega⟩
  | succ u =>
    obtain ⟨τ, q, e, h1, h4⟩ := kp_undo21 (σ := kf_wi σ 77 56 (nI u)) (u := u) (by omega) (kp_wi_same _ _ _ _) 70 0 rfl kf_F (kf_F_gt (by decide)) _ kp_chM.rf (kp_set0 0)
    have e' : f_X12_undo_21 kf_F 77 0 (kf_wi σ 77 56 (nI u)) = f_X12_undo_21_s (f_X12_undo_21 q) 77 (nI 70) τ := e
    rw [h2, if_neg (nI_ne0 (by omega) (by omega)), nI_pred, kz_lt, e', if_neg (by omega)]
    unfold f_X12_undo_21_s
    simp (disch := omega) only [↓reduceIte, kz_lt, Option.bind_some, kz_ix, kz_leT, kz_leF, kz_ltT, kz_ltF, kz_lt0, kz_0le, kz_0ltT, kz_le0F, kz_eq0F, kz_10, kz_00, kz_11, kz_01, nI_clamp, nI_1, nI_add, pk_mul, kn2, kn3, kn4, kn5, kn6, kn7, kn8, kn9, kn10, kn16, kn20, kn24, kn30, kn32, kn36, kn40, kn41, kn42, kn48, kn54, kn60, kn61, kn64, kn69, kn70, kn99, kn100, kc0, kc1, kc2, kc3, kc4, kc5, kc6, kc7, kc8, kc9, kc10, kx0, kx1, kx2, kx3, kx4, kx5, kx6, kx7, kx8, kr77_1, kr77_3, kr77_5, kr77_6, kr77_7, kr77_8, kr77_9, kr77_21, kr77_22, kr77_23, kr77_24, kr77_25, kr77_26, kr77_27, kr77_28, kr77_29, kr77_30, kr77_31, kr77_32, kr77_33, kr77_34, kr77_35, kr77_36, kr77_38, kr77_39, kr77_40, kr77_41, kr77_42, kr77_44, kr77_45, kr77_46, kr77_48, kr77_49, kr77_51, kr77_52, kr77_55, kr77_57, kr77_58, kr77_59, kr77_61, kr77_62, kr77_63, kr77_64, kr77_65, kl78, kl79, kl80, kl81, kl82, kl83, kl84, kl85, kl86, kl87, kl88, kl89, kl90, kl91, kl92, kl93, kl94, kl95, kl96, kl97, kl98, kl99, kl100, kl101, kl102, kl103, kl104, kl105, kl106, kl107, kl108, kl109, kl110, kl111, kl112, kl113, kl114, kl115, kl116, kl117, kl118, kl119, kl120, kl121]
    refine ⟨τ, rfl, (kp_chM.ws (J := fun j => j = 56) kp_chM.rf rfl).tr (h1.mono (fun r h => h) (fun j h => h.elim)), ⟨by omega, ?_, fun i hi => ?_⟩, fun e => by omega, fun w ew => ?_⟩
    · rw [h1.2.1 56 (fun x => x), kp_wi_same]; rfl
    · rw [h1.1 114 (by decide) (by decide), kz_rowf (by decide)]
      exact h3 i (by omega)
    · refine (h3 w (by omega)).ch (fun j hj => ?_)
      rw [h4 j, if_pos ⟨Nat.zero_le _, by omega⟩, kp_wi_row (by decide), Nat.sub_zero, show u = w by omega]
