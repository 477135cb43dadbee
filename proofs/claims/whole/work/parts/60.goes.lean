/-! ===== pure: the reference's days ===== -/
theorem kp_isDueM {T : kp_T} {lv : Nat} {σ : kf_St} (hT : kp_Tok T) (h : kp_MT T lv σ) {r dy : Nat} (hr : r < kt_nr T) (hdy : dy < 2 ^ 30) : f_X12_isDue 77 (nI r) (nI dy) σ = some (if kp_due T r dy then 1 else 0, σ) := by
  have h1 := hT.1.2.2
  have hl := h.1
  obtain ⟨-, -, c3, c4⟩ := h.2.2.2.2.2.2.1 r hr
  obtain ⟨-, -, t3, t4, t5⟩ := hT.2.2.2.1 r hr
  unfold f_X12_isDue
  simp (disch := omega) only [↓reduceIte, kz_lt, Option.bind_some, kz_ix, kz_leT, kz_leF, kz_ltT, kz_ltF, kz_lt0, kz_0le, kz_0ltT, kz_le0F, kz_eq0F, kz_10, kz_00, kz_11, kz_01, nI_clamp, nI_1, nI_add, pk_mul, kn2, kn3, kn4, kn5, kn6, kn7, kn8, kn9, kn10, kn16, kn20, kn24, kn30, kn32, kn36, kn40, kn41, kn42, kn48, kn54, kn60, kn61, kn64, kn69, kn70, kn99, kn100, kc0, kc1, kc2, kc3, kc4, kc5, kc6, kc7, kc8, kc9, kc10, kx0, kx1, kx2, kx3, kx4, kx5, kx6, kx7, kx8, kr77_1, kr77_3, kr77_5, kr77_6, kr77_7, kr77_8, kr77_9, kr77_21, kr77_22, kr77_23, kr77_24, kr77_25, kr77_26, kr77_27, kr77_28, kr77_29, kr77_30, kr77_31, kr77_32, kr77_33, kr77_34, kr77_35, kr77_36, kr77_38, kr77_39, kr77_40, kr77_41, kr77_42, kr77_44, kr77_45, kr77_46, kr77_48, kr77_49, kr77_51, kr77_52, kr77_55, kr77_57, kr77_58, kr77_59, kr77_61, kr77_62, kr77_63, kr77_64, kr77_65, kl78, kl79, kl80, kl81, kl82, kl83, kl84, kl85, kl86, kl87, kl88, kl89, kl90, kl91, kl92, kl93, kl94, kl95, kl96, kl97, kl98, kl99, kl100, kl101, kl102, kl103, kl104, kl105, kl106, kl107, kl108, kl109, kl110, kl111, kl112, kl113, kl114, kl115, kl116, kl117, kl118, kl119, kl120, kl121, h.2.1, c3, c4]
  unfold kp_due
  by_cases e : kt_fr T r ≤ dy
  · rw [pk_sub e]
    simp (disch := omega) only [↓reduceIte, kz_lt, Option.bind_some, kz_ix, kz_leT, kz_leF, kz_ltT, kz_ltF, kz_lt0, kz_0le, kz_0ltT, kz_le0F, kz_eq0F, kz_10, kz_00, kz_11, kz_01, nI_clamp, nI_1, nI_add, pk_mul, pk_rem]
    by_cases e2 : (dy - kt_fr T r) % kt_ev T r = 0
    · rw [e2, if_pos (show nI 0 = 0 from rfl), if_pos (decide_eq_true ⟨e, rfl⟩)]
    · have := Nat.mod_lt (dy - kt_fr T r) (show 0 < kt_ev T r by omega)
      rw [if_neg (nI_ne0 (by omega) (by omega)), if_neg (fun x => e2 (of_decide_eq_true x).2)]
  · rw [if_pos (nI_lt (by omega) (by omega)), if_neg (fun x => e (of_decide_eq_true x).1)]
theorem kp_lotM {n w : Int32} {σ : kf_St} (hn2 : ¬ n = 0) : f_X12_lotOf 77 w n σ = some (kp_lot n (σ.1 77 53) w, σ) := by
  unfold f_X12_lotOf f_X12_mixed
  simp only [kz_lt, Option.bind_some]
  rw [if_neg hn2]
  rfl
theorem kp_isWindM {T : kp_T} {lv : Nat} {σ : kf_St} (h : kp_MT T lv σ) {dy : Nat} (ey : σ.1 112 69 = nI dy) : f_X12_isWind 77 σ = some (if kp_bl T (σ.1 77 53) dy then 1 else 0, σ) := by
  have hl := h.1
  have k69 : (kf_ix 69 70 = true) = True := eq_true (by decide)
  unfold f_X12_isWind kp_bl
  simp (disch := omega) only [↓reduceIte, kz_lt, Option.bind_some, kz_ix, kz_leT, kz_leF, kz_ltT, kz_ltF, kz_lt0, kz_0le, kz_0ltT, kz_le0F, kz_eq0F, kz_10, kz_00, kz_11, kz_01, nI_clamp, nI_1, nI_add, pk_mul, kc0, kc1, kc2, kc3, kc4, kc5, kc6, kc7, kc8, kc9, kc10, kx0, kx1, kx2, kx3, kx4, kx5, kx6, kx7, kx8, kr77_1, kr77_3, kr77_5, kr77_6, kr77_7, kr77_8, kr77_9, kr77_21, kr77_22, kr77_23, kr77_24, kr77_25, kr77_26, kr77_27, kr77_28, kr77_29, kr77_30, kr77_31, kr77_32, kr77_33, kr77_34, kr77_35, kr77_36, kr77_38, kr77_39, kr77_40, kr77_41, kr77_42, kr77_44, kr77_45, kr77_46, kr77_48, kr77_49, kr77_51, kr77_52, kr77_55, kr77_57, kr77_58, kr77_59, kr77_61, kr77_62, kr77_63, kr77_64, kr77_65, kl78, kl79, kl80, kl81, kl82, kl83, kl84, kl85, kl86, kl87, kl88, kl89, kl90, kl91, kl92, kl93, kl94, kl95, kl96, kl97, kl98, kl99, kl100, kl101, kl102, kl103, kl104, kl105, kl106, kl107, kl108, kl109, kl110, kl111, kl112, kl113, kl114, kl115, kl116, kl117, kl118, kl119, kl120, kl121, k69, kn69x, ey, kp_lotM (show ¬ (100 : Int32) = 0 by decide), h.2.1, h.2.2.2.1.1]
  by_cases e : kp_lot 100 (σ.1 77 53) (16 * nI dy) < nI (kt_wi T)
  · rw [if_neg (Int32.not_le.mpr e), if_pos (decide_eq_true e)]
  · rw [if_pos (Int32.not_lt.mp e), if_neg (fun x => e (of_decide_eq_true x))]
def kp_cell (d j : Nat) : Prop := (4 * d ≤ j ∧ j < 4 * d + 4) ∨ j = 24 + d ∨ j = 30 + d ∨ j = 36 + d ∨ j = 42 + d ∨ j = 48 + d
theorem kp_fS.set {ρ ρ' : Nat → Int32} {S : kp_S} {d : Nat} {D : kp_D} (h : kp_fS ρ S) (hd : d < 6) (e : ∀ j, j < 70 → ¬ kp_cell d j → ρ' j = ρ j) (eD : kp_fD ρ' d = D) : kp_fS ρ' (fun x => if x = d then D else S.1 x, S.2) := by
  obtain ⟨h1, h2, h3, h4⟩ := h
  unfold kp_cell at e
  refine ⟨fun a ha => ?_, fun c hc => by rw [e _ (by omega) (by omega)]; exact h2 c hc, fun r hr => by rw [e _ (by omega) (by omega)]; exact h3 r hr, by rw [e _ (by omega) (by omega)]; exact h4⟩
  show _ = if a = d then D else S.1 a
  by_cases b : a = d
  · rw [if_pos b, b]; exact eD
  · rw [if_neg b, ← h1 a ha]
    exact kp_fD_eq (fun q hq => e _ (by omega) (by omega)) (e _ (by omega) (by omega)) (e _ (by omega) (by omega)) (e _ (by omega) (by omega)) (e _ (by omega) (by omega)) (e _ (by omega) (by omega))
def kp_upto (S : kp_S) (f : Nat → kp_D → kp_D) (d : Nat) : kp_S := (fun x => if x < d then f x (S.1 x) else S.1 x, S.2)
theorem kp_upto_s {S : kp_S} {f : Nat → kp_D → kp_D} {d : Nat} : ((fun x => if x = d then f d (S.1 d) else (kp_upto S f d).1 x, (kp_upto S f d).2) : kp_S) = kp_upto S f (d + 1) := by
  refine Prod.ext (funext fun x => ?_) rfl
  show (if x = d then _ else if x < d then _ else _) = if x < d + 1 then _ else _
  by_cases b : x = d
  · rw [if_pos b, if_pos (by omega), b]
  · rw [if_neg b]
    by_cases b2 : x < d
    · rw [if_pos b2, if_pos (by omega)]
    · rw [if_neg b2, if_neg (by omega)]
theorem kp_upto_at {S : kp_S} {f : Nat → kp_D → kp_D} {d : Nat} : (kp_upto S f d).1 d = S.1 d := if_neg (Nat.lt_irrefl d)
theorem kp_upto_0 {S : kp_S} {f : Nat → kp_D → kp_D} : kp_upto S f 0 = S := by
  refine Prod.ext (funext fun x => ?_) rfl
  show (if x < 0 then f x (S.1 x) else S.1 x) = S.1 x
  exact if_neg (Nat.not_lt_zero x)
/-! idle -/
theorem kp_idlM {i t : Int32} (hi : ∃ n, n ≤ 999 ∧ i = nI n) : (if t = 1 then 0 else kp_wn (i + 1) 0 999) = kp_idl i t := by
  obtain ⟨n, hn, rfl⟩ := hi
  unfold kp_idl
  by_cases h : t = 1
  · rw [if_pos h, if_pos h]
  · rw [if_neg h, if_neg h, nI_1]
    unfold kp_wn
    rw [if_neg (nI_pos (by omega))]
    by_cases h2 : n + 1 < 999
    · rw [if_pos (show nI (n + 1) < 999 from nI_lt (b := 999) h2 (by decide)), if_neg (show ¬ 999 < nI (n + 1) from nI_nlt (a := 999) (by omega) (by decide))]
    · rw [if_neg (show ¬ nI (n + 1) < 999 from nI_nlt (b := 999) (by omega) (by omega))]
      by_cases h3 : 999 < nI (n + 1)
      · rw [if_pos h3]
      · rw [if_neg h3]
        have : ¬ 999 < n + 1 := fun e => h3 (nI_lt (a := 999) e (by omega))
        rw [show n + 1 = 999 by omega]
        rfl
theorem kp_g265 {T : kp_T} {lv : Nat} {σ : kf_St} {S : kp_S} (hT : kp_Tok T) (h : kp_MT T lv σ) (hD : ∀ d, d < kt_nd T → kp_Dok (S.1 d)) : ∀ (m d : Nat), d + m = kt_nd T → ∀ fuel, m < fuel → ∀ τ, kp_chM (fun r => r = 112) (fun _ => False) σ τ → kp_fS (τ.1 112) (kp_upto S (fun _ => kp_id) d) → ∃ τ', f_X12_dayGoes_265 fuel 77 (nI d) τ = some τ' ∧ kp_chM (fun r => r = 112) (fun _ => False) σ τ' ∧ kp_fS (τ'.1 112) ((kp_upto S (fun _ => kp_id) (kt_nd T)).1, S.2.1, S.2.2.1, S.2.2.2 + 1) := by
  have h6 := hT.1.1
  have hl := h.1
  have k69 : (kf_ix 69 70 = true) = True := eq_true (by decide)
  intro m
  induction m with
  | zero =>
    intro d hd fuel hf τ h1 h2
    obtain ⟨n, rfl⟩ := kp_fuel (show 0 < fuel by omega)
    obtain rfl : d = kt_nd T := by omega
    show ∃ τ', f_X12_dayGoes_265_s _ 77 (nI (kt_nd T)) τ = some τ' ∧ _
    have hτ := h.chM h1 (fun r e => by omega) (fun x => x)
    unfold f_X12_dayGoes_265_s
    simp (disch := omega) only [↓reduceIte, kz_lt, Option.bind_some, kz_ix, kz_leT, kz_leF, kz_ltT, kz_ltF, kz_lt0, kz_0le, kz_0ltT, kz_le0F, kz_eq0F, kz_10, kz_00, kz_11, kz_01, nI_clamp, nI_1, nI_add, pk_mul, kc0, kc1, kc2, kc3, kc4, kc5, kc6, kc7, kc8, kc9, kc10, kx0, kx1, kx2, kx3, kx4, kx5, kx6, kx7, kx8, kr77_1, kr77_3, kr77_5, kr77_6, kr77_7, kr77_8, kr77_9, kr77_21, kr77_22, kr77_23, kr77_24, kr77_25, kr77_26, kr77_27, kr77_28, kr77_29, kr77_30, kr77_31, kr77_32, kr77_33, kr77_34, kr77_35, kr77_36, kr77_38, kr77_39, kr77_40, kr77_41, kr77_42, kr77_44, kr77_45, kr77_46, kr77_48, kr77_49, kr77_51, kr77_52, kr77_55, kr77_57, kr77_58, kr77_59, kr77_61, kr77_62, kr77_63, kr77_64, kr77_65, kl78, kl79, kl80, kl81, kl82, kl83, kl84, kl85, kl86, kl87, kl88, kl89, kl90, kl91, kl92, kl93, kl94, kl95, kl96, kl97, kl98, kl99, kl100, kl101, kl102, kl103, kl104, kl105, kl106, kl107, kl108, kl109, kl110, kl111, kl112, kl113, kl114, kl115, kl116, kl117, kl118, kl119, kl120, kl121, hτ.2.1, hτ.2.2.1.1, k69, kn69x, h2.2.2.2]
    refine ⟨_, rfl, kp_chM.wi h1 rfl (by decide), ?_, ?_, ?_, ?_⟩
    · intro a ha
      show _ = (kp_upto S (fun _ => kp_id) (kt_nd T)).1 a
      rw [← h2.1 a ha]
      refine kp_fD_eq (fun q hq => ?_) ?_ ?_ ?_ ?_ ?_ <;> simp (disch := omega) only [↓reduceIte, kz_lt, Option.bind_some, kz_ix, kz_leT, kz_leF, kz_ltT, kz_ltF, kz_lt0, kz_0le, kz_0ltT, kz_le0F, kz_eq0F, kz_10, kz_00, kz_11, kz_01, nI_clamp, nI_1, nI_add, pk_mul, kz_col]
    · intro c hc
      simp (disch := omega) only [↓reduceIte, kz_lt, Option.bind_some, kz_ix, kz_leT, kz_leF, kz_ltT, kz_ltF, kz_lt0, kz_0le, kz_0ltT, kz_le0F, kz_eq0F, kz_10, kz_00, kz_11, kz_01, nI_clamp, nI_1, nI_add, pk_mul, kz_col]
      exact h2.2.1 c hc
    · intro r hr
      simp (disch := omega) only [↓reduceIte, kz_lt, Option.bind_some, kz_ix, kz_leT, kz_leF, kz_ltT, kz_ltF, kz_lt0, kz_0le, kz_0ltT, kz_le0F, kz_eq0F, kz_10, kz_00, kz_11, kz_01, nI_clamp, nI_1, nI_add, pk_mul, kz_col]
      exact h2.2.2.1 r hr
    · simp (disch := omega) only [↓reduceIte, kz_lt, Option.bind_some, kz_ix, kz_leT, kz_leF, kz_ltT, kz_ltF, kz_lt0, kz_0le, kz_0ltT, kz_le0F, kz_eq0F, kz_10, kz_00, kz_11, kz_01, nI_clamp, nI_1, nI_add, pk_mul, kz_same']
      rfl
  | succ m ih =>
    intro d hd fuel hf τ h1 h2
    obtain ⟨n, rfl⟩ := kp_fuel (show 0 < fuel by omega)
    show ∃ τ', f_X12_dayGoes_265_s _ 77 (nI d) τ = some τ' ∧ _
    have hτ := h.chM h1 (fun r e => by omega) (fun x => x)
    have hd6 : d < 6 := by omega
    have hDd := hD d (by omega)
    obtain ⟨f0, f1, f2, f3, f4, f5⟩ := kp_fD_f ((h2.1 d hd6).trans kp_upto_at)
    have fin : ∀ v, v = kp_idl (S.1 d).2.2.1 (S.1 d).2.2.2.2.2 → ∃ τ', f_X12_dayGoes_321 (f_X12_dayGoes_265 n) 77 (nI d) 112 (nI (30 + d)) v τ = some τ' ∧ kp_chM (fun r => r = 112) (fun _ => False) σ τ' ∧ kp_fS (τ'.1 112) ((kp_upto S (fun _ => kp_id) (kt_nd T)).1, S.2.1, S.2.2.1, S.2.2.2 + 1) := by
      intro v hv
      unfold f_X12_dayGoes_321
      simp (disch := omega) only [↓reduceIte, kz_lt, Option.bind_some, kz_ix, kz_leT, kz_leF, kz_ltT, kz_ltF, kz_lt0, kz_0le, kz_0ltT, kz_le0F, kz_eq0F, kz_10, kz_00, kz_11, kz_01, nI_clamp, nI_1, nI_add, pk_mul, kn2, kn3, kn4, kn5, kn6, kn7, kn8, kn9, kn10, kn16, kn20, kn24, kn30, kn32, kn36, kn40, kn41, kn42, kn48, kn54, kn60, kn61, kn64, kn69, kn70, kn99, kn100, kc0, kc1, kc2, kc3, kc4, kc5, kc6, kc7, kc8, kc9, kc10, kx0, kx1, kx2, kx3, kx4, kx5, kx6, kx7, kx8, kr77_1, kr77_3, kr77_5, kr77_6, kr77_7, kr77_8, kr77_9, kr77_21, kr77_22, kr77_23, kr77_24, kr77_25, kr77_26, kr77_27, kr77_28, kr77_29, kr77_30, kr77_31, kr77_32, kr77_33, kr77_34, kr77_35, kr77_36, kr77_38, kr77_39, kr77_40, kr77_41, kr77_42, kr77_44, kr77_45, kr77_46, kr77_48, kr77_49, kr77_51, kr77_52, kr77_55, kr77_57, kr77_58, kr77_59, kr77_61, kr77_62, kr77_63, kr77_64, kr77_65, kl78, kl79, kl80, kl81, kl82, kl83, kl84, kl85, kl86, kl87, kl88, kl89, kl90, kl91, kl92, kl93, kl94, kl95, kl96, kl97, kl98, kl99, kl100, kl101, kl102, kl103, kl104, kl105, kl106, kl107, kl108, kl109, kl110, kl111, kl112, kl113, kl114, kl115, kl116, kl117, kl118, kl119, kl120, kl121]
      refine ih (d + 1) (by omega) n (by omega) _ (kp_chM.wi (kp_chM.wi h1 rfl (by decide)) rfl (by decide)) ?_
      rw [← kp_upto_s]
      refine h2.set hd6 (fun j hj hc => ?_) ?_
      · unfold kp_cell at hc
        simp (disch := omega) only [↓reduceIte, kz_lt, Option.bind_some, kz_ix, kz_leT, kz_leF, kz_ltT, kz_ltF, kz_lt0, kz_0le, kz_0ltT, kz_le0F, kz_eq0F, kz_10, kz_00, kz_11, kz_01, nI_clamp, nI_1, nI_add, pk_mul, kz_col]
      · refine (kp_fD_mk (f := (S.1 d).1) (a := (S.1 d).2.1) (b := v) (c := (S.1 d).2.2.2.1) (m := (S.1 d).2.2.2.2.1) (e := 0) (fun q hq => ?_) ?_ ?_ ?_ ?_ ?_).trans ?_
        · simp (disch := omega) only [↓reduceIte, kz_lt, Option.bind_some, kz_ix, kz_leT, kz_leF, kz_ltT, kz_ltF, kz_lt0, kz_0le, kz_0ltT, kz_le0F, kz_eq0F, kz_10, kz_00, kz_11, kz_01, nI_clamp, nI_1, nI_add, pk_mul, kz_col]; exact f0 q hq
        · simp (disch := omega) only [↓reduceIte, kz_lt, Option.bind_some, kz_ix, kz_leT, kz_leF, kz_ltT, kz_ltF, kz_lt0, kz_0le, kz_0ltT, kz_le0F, kz_eq0F, kz_10, kz_00, kz_11, kz_01, nI_clamp, nI_1, nI_add, pk_mul, kz_col]; exact f1
        · simp (disch := omega) only [↓reduceIte, kz_lt, Option.bind_some, kz_ix, kz_leT, kz_leF, kz_ltT, kz_ltF, kz_lt0, kz_0le, kz_0ltT, kz_le0F, kz_eq0F, kz_10, kz_00, kz_11, kz_01, nI_clamp, nI_1, nI_add, pk_mul, kz_col, kz_same']
        · simp (disch := omega) only [↓reduceIte, kz_lt, Option.bind_some, kz_ix, kz_leT, kz_leF, kz_ltT, kz_ltF, kz_lt0, kz_0le, kz_0ltT, kz_le0F, kz_eq0F, kz_10, kz_00, kz_11, kz_01, nI_clamp, nI_1, nI_add, pk_mul, kz_col]; exact f3
        · simp (disch := omega) only [↓reduceIte, kz_lt, Option.bind_some, kz_ix, kz_leT, kz_leF, kz_ltT, kz_ltF, kz_lt0, kz_0le, kz_0ltT, kz_le0F, kz_eq0F, kz_10, kz_00, kz_11, kz_01, nI_clamp, nI_1, nI_add, pk_mul, kz_col]; exact f4
        · simp (disch := omega) only [↓reduceIte, kz_lt, Option.bind_some, kz_ix, kz_leT, kz_leF, kz_ltT, kz_ltF, kz_lt0, kz_0le, kz_0ltT, kz_le0F, kz_eq0F, kz_10, kz_00, kz_11, kz_01, nI_clamp, nI_1, nI_add, pk_mul, kz_same']
        · rw [kp_fD_cut ((h2.1 d hd6).trans kp_upto_at), hv]
          rfl
    unfold f_X12_dayGoes_265_s
    simp (disch := omega) only [↓reduceIte, kz_lt, Option.bind_some, kz_ix, kz_leT, kz_leF, kz_ltT, kz_ltF, kz_lt0, kz_0le, kz_0ltT, kz_le0F, kz_eq0F, kz_10, kz_00, kz_11, kz_01, nI_clamp, nI_1, nI_add, pk_mul, kn2, kn3, kn4, kn5, kn6, kn7, kn8, kn9, kn10, kn16, kn20, kn24, kn30, kn32, kn36, kn40, kn41, kn42, kn48, kn54, kn60, kn61, kn64, kn69, kn70, kn99, kn100, kc0, kc1, kc2, kc3, kc4, kc5, kc6, kc7, kc8, kc9, kc10, kx0, kx1, kx2, kx3, kx4, kx5, kx6, kx7, kx8, kr77_1, kr77_3, kr77_5, kr77_6, kr77_7, kr77_8, kr77_9, kr77_21, kr77_22, kr77_23, kr77_24, kr77_25, kr77_26, kr77_27, kr77_28, kr77_29, kr77_30, kr77_31, kr77_32, kr77_33, kr77_34, kr77_35, kr77_36, kr77_38, kr77_39, kr77_40, kr77_41, kr77_42, kr77_44, kr77_45, kr77_46, kr77_48, kr77_49, kr77_51, kr77_52, kr77_55, kr77_57, kr77_58, kr77_59, kr77_61, kr77_62, kr77_63, kr77_64, kr77_65, kl78, kl79, kl80, kl81, kl82, kl83, kl84, kl85, kl86, kl87, kl88, kl89, kl90, kl91, kl92, kl93, kl94, kl95, kl96, kl97, kl98, kl99, kl100, kl101, kl102, kl103, kl104, kl105, kl106, kl107, kl108, kl109, kl110, kl111, kl112, kl113, kl114, kl115, kl116, kl117, kl118, kl119, kl120, kl121, hτ.2.1, hτ.2.2.1.1, f5, f2, kp_withinM _ _ _ (show (0 : Int32) ≤ 999 by decide)]
    have hid := kp_idlM (t := (S.1 d).2.2.2.2.2) hDd.2.1
    by_cases b : (S.1 d).2.2.2.2.2 = 1
    · rw [if_pos b] at hid ⊢
      exact fin _ hid
    · rw [if_neg b] at hid ⊢
      exact fin _ hid
/-! wear -/
theorem kp_g211 {T : kp_T} {lv : Nat} {σ : kf_St} {S : kp_S} {d : Nat} {x : Nat → Int32} {rec : Nat → Int32 → kf_St → Option kf_St} (hT : kp_Tok T) (h : kp_MT T lv σ) (hd : d < kt_nd T) (hS : kp_fS (σ.1 112) S) (ex : ∀ q, q < 4 → x q = kp_st (kt_lw T) (S.1 d) (kt_fi T d) d q (nI S.2.2.2)) : ∀ (m p : Nat), p + m = 4 → ∀ fuel, m < fuel → ∀ τ, kp_chM (fun r => r = 109 ∨ r = 110 ∨ r = 112 ∨ r = 113) (fun j => j = 50) σ τ → (∀ q, q < 4 → τ.1 113 q = x q) → (∀ j, j < 4 * d ∨ 4 * d + 4 ≤ j → τ.1 112 j = σ.1 112 j) → (∀ q, q < 4 → τ.1 112 (4 * d + q) = if q < p then kp_tw ((S.1 d).1 q) (kt_fi T d q) (x q) else (S.1 d).1 q) → ∃ τ', f_X12_dayGoes_211 rec fuel 77 (nI d) (nI p) τ = rec 77 (nI (d + 1)) τ' ∧ kp_chM (fun r => r = 109 ∨ r = 110 ∨ r = 112 ∨ r = 113) (fun j => j = 50) σ τ' ∧ kp_fS (τ'.1 112) (fun y => if y = d then kp_wr T d S.2.2.2 (S.1 d) else S.1 y, S.2) := by
  have h6 := hT.1.1
  obtain ⟨f0, f1, f2, f3, f4, f5⟩ := kp_fD_f (hS.1 d (by omega))
  intro m
  induction m with
  | zero =>
    intro p hp fuel hf τ h1 h2 h3 h4
    obtain ⟨n, rfl⟩ := kp_fuel (show 0 < fuel by omega)
    obtain rfl : p = 4 := by omega
    show ∃ τ', f_X12_dayGoes_211_s rec _ 77 (nI d) (nI 4) τ = rec 77 (nI (d + 1)) τ' ∧ _
    unfold f_X12_dayGoes_211_s
    simp (disch := omega) only [↓reduceIte, kz_lt, Option.bind_some, kz_ix, kz_leT, kz_leF, kz_ltT, kz_ltF, kz_lt0, kz_0le, kz_0ltT, kz_le0F, kz_eq0F, kz_10, kz_00, kz_11, kz_01, nI_clamp, nI_1, nI_add, pk_mul, kn2, kn3, kn4, kn5, kn6, kn7, kn8, kn9, kn10, kn16, kn20, kn24, kn30, kn32, kn36, kn40, kn41, kn42, kn48, kn54, kn60, kn61, kn64, kn69, kn70, kn99, kn100, kc0, kc1, kc2, kc3, kc4, kc5, kc6, kc7, kc8, kc9, kc10, kx0, kx1, kx2, kx3, kx4, kx5, kx6, kx7, kx8, kr77_1, kr77_3, kr77_5, kr77_6, kr77_7, kr77_8, kr77_9, kr77_21, kr77_22, kr77_23, kr77_24, kr77_25, kr77_26, kr77_27, kr77_28, kr77_29, kr77_30, kr77_31, kr77_32, kr77_33, kr77_34, kr77_35, kr77_36, kr77_38, kr77_39, kr77_40, kr77_41, kr77_42, kr77_44, kr77_45, kr77_46, kr77_48, kr77_49, kr77_51, kr77_52, kr77_55, kr77_57, kr77_58, kr77_59, kr77_61, kr77_62, kr77_63, kr77_64, kr77_65, kl78, kl79, kl80, kl81, kl82, kl83, kl84, kl85, kl86, kl87, kl88, kl89, kl90, kl91, kl92, kl93, kl94, kl95, kl96, kl97, kl98, kl99, kl100, kl101, kl102, kl103, kl104, kl105, kl106, kl107, kl108, kl109, kl110, kl111, kl112, kl113, kl114, kl115, kl116, kl117, kl118, kl119, kl120, kl121]
    refine ⟨τ, rfl, h1, hS.set (by omega) (fun j hj hc => h3 j (by unfold kp_cell at hc; omega)) ?_⟩
    have ef : kd_cut (fun q => kp_tw ((S.1 d).1 q) (kt_fi T d q) (x q)) = kd_cut (fun q => kp_tw ((S.1 d).1 q) (kt_fi T d q) (kp_st (kt_lw T) (S.1 d) (kt_fi T d) d q (nI S.2.2.2))) := kd_cut_eq (fun q hq => by rw [ex q hq])
    refine (kp_fD_mk (f := fun q => kp_tw ((S.1 d).1 q) (kt_fi T d q) (x q)) (fun q hq => ?_) ((h3 _ (by omega)).trans f1) ((h3 _ (by omega)).trans f2) ((h3 _ (by omega)).trans f3) ((h3 _ (by omega)).trans f4) ((h3 _ (by omega)).trans f5)).trans (by rw [ef]; rfl)
    rw [h4 q hq, if_pos hq]
  | succ m ih =>
    intro p hp fuel hf τ h1 h2 h3 h4
    obtain ⟨n, rfl⟩ := kp_fuel (show 0 < fuel by omega)
    show ∃ τ', f_X12_dayGoes_211_s rec _ 77 (nI d) (nI p) τ = rec 77 (nI (d + 1)) τ' ∧ _
    unfold f_X12_dayGoes_211_s
    simp (disch := omega) only [↓reduceIte, kz_lt, Option.bind_some, kz_ix, kz_leT, kz_leF, kz_ltT, kz_ltF, kz_lt0, kz_0le, kz_0ltT, kz_le0F, kz_eq0F, kz_10, kz_00, kz_11, kz_01, nI_clamp, nI_1, nI_add, pk_mul, kn2, kn3, kn4, kn5, kn6, kn7, kn8, kn9, kn10, kn16, kn20, kn24, kn30, kn32, kn36, kn40, kn41, kn42, kn48, kn54, kn60, kn61, kn64, kn69, kn70, kn99, kn100, kc0, kc1, kc2, kc3, kc4, kc5, kc6, kc7, kc8, kc9, kc10, kx0, kx1, kx2, kx3, kx4, kx5, kx6, kx7, kx8, kr77_1, kr77_3, kr77_5, kr77_6, kr77_7, kr77_8, kr77_9, kr77_21, kr77_22, kr77_23, kr77_24, kr77_25, kr77_26, kr77_27, kr77_28, kr77_29, kr77_30, kr77_31, kr77_32, kr77_33, kr77_34, kr77_35, kr77_36, kr77_38, kr77_39, kr77_40, kr77_41, kr77_42, kr77_44, kr77_45, kr77_46, kr77_48, kr77_49, kr77_51, kr77_52, kr77_55, kr77_57, kr77_58, kr77_59, kr77_61, kr77_62, kr77_63, kr77_64, kr77_65, kl78, kl79, kl80, kl81, kl82, kl83, kl84, kl85, kl86, kl87, kl88, kl89, kl90, kl91, kl92, kl93, kl94, kl95, kl96, kl97, kl98, kl99, kl100, kl101, kl102, kl103, kl104, kl105, kl106, kl107, kl108, kl109, kl110, kl111, kl112, kl113, kl114, kl115, kl116, kl117, kl118, kl119, kl120, kl121, kp_firstPart hT (h.chM h1 (fun r e => by omega) (by omega)) hd (show p < 4 by omega), kp_towM, h2 p (by omega), h4 p (by omega), if_neg (Nat.lt_irrefl p)]
    refine ih (p + 1) (by omega) n (by omega) _ (kp_chM.wi h1 (by omega) (by decide)) (fun q hq => by rw [kp_wi_row (by decide)]; exact h2 q hq) (fun j hj => by rw [kp_wi_col (by omega)]; exact h3 j hj) (fun q hq => ?_)
    by_cases e : q = p
    · rw [e, kp_wi_same, if_pos (by omega)]
    · rw [kp_wi_col (by omega), h4 q hq]
      by_cases e2 : q < p
      · rw [if_pos e2, if_pos (by omega)]
      · rw [if_neg e2, if_neg (by omega)]
theorem kp_g186 {T : kp_T} {lv : Nat} {σ : kf_St} {S : kp_S} {d : Nat} {rec : Nat → Int32 → kf_St → Option kf_St} (hT : kp_Tok T) (h : kp_MT T lv σ) (hd : d < kt_nd T) (hS : kp_fS (σ.1 112) S) (hD : kp_Dok (S.1 d)) : ∀ (m p : Nat), p + m = 4 → ∀ fuel, m < fuel → ∀ τ, kp_chM (fun r => r = 109 ∨ r = 110 ∨ r = 113) (fun j => j = 50) σ τ → (∀ q, q < p → τ.1 113 q = kp_st (kt_lw T) (S.1 d) (kt_fi T d) d q (nI S.2.2.2)) → ∃ τ', f_X12_dayGoes_186 rec fuel 77 (nI d) (nI p) τ = rec 77 (nI (d + 1)) τ' ∧ kp_chM (fun r => r = 109 ∨ r = 110 ∨ r = 112 ∨ r = 113) (fun j => j = 50) σ τ' ∧ kp_fS (τ'.1 112) (fun y => if y = d then kp_wr T d S.2.2.2 (S.1 d) else S.1 y, S.2) := by
  have h6 := hT.1.1
  intro m
  induction m with
  | zero =>
    intro p hp fuel hf τ h1 h2
    obtain ⟨n, rfl⟩ := kp_fuel (show 0 < fuel by omega)
    obtain rfl : p = 4 := by omega
    show ∃ τ', f_X12_dayGoes_186_s rec _ 77 (nI d) (nI 4) τ = rec 77 (nI (d + 1)) τ' ∧ _
    unfold f_X12_dayGoes_186_s
    simp (disch := omega) only [↓reduceIte, kz_lt, Option.bind_some, kz_ix, kz_leT, kz_leF, kz_ltT, kz_ltF, kz_lt0, kz_0le, kz_0ltT, kz_le0F, kz_eq0F, kz_10, kz_00, kz_11, kz_01, nI_clamp, nI_1, nI_add, pk_mul, kn2, kn3, kn4, kn5, kn6, kn7, kn8, kn9, kn10, kn16, kn20, kn24, kn30, kn32, kn36, kn40, kn41, kn42, kn48, kn54, kn60, kn61, kn64, kn69, kn70, kn99, kn100, kc0, kc1, kc2, kc3, kc4, kc5, kc6, kc7, kc8, kc9, kc10, kx0, kx1, kx2, kx3, kx4, kx5, kx6, kx7, kx8, kr77_1, kr77_3, kr77_5, kr77_6, kr77_7, kr77_8, kr77_9, kr77_21, kr77_22, kr77_23, kr77_24, kr77_25, kr77_26, kr77_27, kr77_28, kr77_29, kr77_30, kr77_31, kr77_32, kr77_33, kr77_34, kr77_35, kr77_36, kr77_38, kr77_39, kr77_40, kr77_41, kr77_42, kr77_44, kr77_45, kr77_46, kr77_48, kr77_49, kr77_51, kr77_52, kr77_55, kr77_57, kr77_58, kr77_59, kr77_61, kr77_62, kr77_63, kr77_64, kr77_65, kl78, kl79, kl80, kl81, kl82, kl83, kl84, kl85, kl86, kl87, kl88, kl89, kl90, kl91, kl92, kl93, kl94, kl95, kl96, kl97, kl98, kl99, kl100, kl101, kl102, kl103, kl104, kl105, kl106, kl107, kl108, kl109, kl110, kl111, kl112, kl113, kl114, kl115, kl116, kl117, kl118, kl119, kl120, kl121]
    have e112 : τ.1 112 = σ.1 112 := h1.1 112 (by decide) (by decide)
    exact kp_g211 (x := fun q => kp_st (kt_lw T) (S.1 d) (kt_fi T d) d q (nI S.2.2.2)) hT h hd hS (fun _ _ => rfl) 4 0 rfl kf_F (kf_F_gt (by decide)) τ (h1.mono (fun r h => by omega) (fun j h => h)) h2 (fun j _ => by rw [e112]) (fun q hq => by rw [e112, if_neg (Nat.not_lt_zero q)]; exact (kp_fD_f (hS.1 d (by omega))).1 q hq)
  | succ m ih =>
    intro p hp fuel hf τ h1 h2
    obtain ⟨n, rfl⟩ := kp_fuel (show 0 < fuel by omega)
    show ∃ τ', f_X12_dayGoes_186_s rec _ 77 (nI d) (nI p) τ = rec 77 (nI (d + 1)) τ' ∧ _
    have e112 : τ.1 112 = σ.1 112 := h1.1 112 (by decide) (by decide)
    obtain ⟨τ1, a1, a2⟩ := kp_wearsOf (D := S.1 d) (dy := nI S.2.2.2) hT (h.chM h1 (fun r e => by omega) (by omega)) hd (show p < 4 by omega) (by rw [e112]; exact hS.1 d (by omega)) (by rw [e112]; exact hS.2.2.2) hD.1
    unfold f_X12_dayGoes_186_s
    simp (disch := omega) only [↓reduceIte, kz_lt, Option.bind_some, kz_ix, kz_leT, kz_leF, kz_ltT, kz_ltF, kz_lt0, kz_0le, kz_0ltT, kz_le0F, kz_eq0F, kz_10, kz_00, kz_11, kz_01, nI_clamp, nI_1, nI_add, pk_mul, kn2, kn3, kn4, kn5, kn6, kn7, kn8, kn9, kn10, kn16, kn20, kn24, kn30, kn32, kn36, kn40, kn41, kn42, kn48, kn54, kn60, kn61, kn64, kn69, kn70, kn99, kn100, kc0, kc1, kc2, kc3, kc4, kc5, kc6, kc7, kc8, kc9, kc10, kx0, kx1, kx2, kx3, kx4, kx5, kx6, kx7, kx8, kr77_1, kr77_3, kr77_5, kr77_6, kr77_7, kr77_8, kr77_9, kr77_21, kr77_22, kr77_23, kr77_24, kr77_25, kr77_26, kr77_27, kr77_28, kr77_29, kr77_30, kr77_31, kr77_32, kr77_33, kr77_34, kr77_35, kr77_36, kr77_38, kr77_39, kr77_40, kr77_41, kr77_42, kr77_44, kr77_45, kr77_46, kr77_48, kr77_49, kr77_51, kr77_52, kr77_55, kr77_57, kr77_58, kr77_59, kr77_61, kr77_62, kr77_63, kr77_64, kr77_65, kl78, kl79, kl80, kl81, kl82, kl83, kl84, kl85, kl86, kl87, kl88, kl89, kl90, kl91, kl92, kl93, kl94, kl95, kl96, kl97, kl98, kl99, kl100, kl101, kl102, kl103, kl104, kl105, kl106, kl107, kl108, kl109, kl110, kl111, kl112, kl113, kl114, kl115, kl116, kl117, kl118, kl119, kl120, kl121, a1]
    refine ih (p + 1) (by omega) n (by omega) _ (kp_chM.wi (h1.tr (a2.mono (fun r h => by omega) (fun j h => h))) (by omega) (by decide)) (fun q hq => ?_)
    by_cases e : q = p
    · rw [e, kp_wi_same]
    · rw [kp_wi_col e, a2.1 113 (by omega) (by decide)]; exact h2 q (by omega)
theorem kp_g171 {T : kp_T} {lv : Nat} {σ : kf_St} {S : kp_S} (hT : kp_Tok T) (h : kp_MT T lv σ) (hD : ∀ d, d < kt_nd T → kp_Dok (S.1 d)) : ∀ (m d : Nat), d + m = kt_nd T → ∀ fuel, m < fuel → ∀ τ, kp_chM (fun r => r = 109 ∨ r = 110 ∨ r = 112 ∨ r = 113) (fun j => j = 50) σ τ → kp_fS (τ.1 112) (kp_upto S (fun y => kp_wr T y S.2.2.2) d) → ∃ τ', f_X12_dayGoes_171 fuel 77 (nI d) τ = some τ' ∧ kp_chM (fun r => r = 109 ∨ r = 110 ∨ r = 112 ∨ r = 113) (fun j => j = 50) σ τ' ∧ kp_fS (τ'.1 112) ((kp_upto (kp_upto S (fun y => kp_wr T y S.2.2.2) (kt_nd T)) (fun _ => kp_id) (kt_nd T)).1, S.2.1, S.2.2.1, S.2.2.2 + 1) := by
  have h6 := hT.1.1
  have hl := h.1
  intro m
  induction m with
  | zero =>
    intro d hd fuel hf τ h1 h2
    obtain ⟨n, rfl⟩ := kp_fuel (show 0 < fuel by omega)
    obtain rfl : d = kt_nd T := by omega
    show ∃ τ', f_X12_dayGoes_171_s _ 77 (nI (kt_nd T)) τ = some τ' ∧ _
    have hτ := h.chM h1 (fun r e => by omega) (by omega)
    unfold f_X12_dayGoes_171_s
    simp (disch := omega) only [↓reduceIte, kz_lt, Option.bind_some, kz_ix, kz_leT, kz_leF, kz_ltT, kz_ltF, kz_lt0, kz_0le, kz_0ltT, kz_le0F, kz_eq0F, kz_10, kz_00, kz_11, kz_01, nI_clamp, nI_1, nI_add, pk_mul, kc0, kc1, kc2, kc3, kc4, kc5, kc6, kc7, kc8, kc9, kc10, kx0, kx1, kx2, kx3, kx4, kx5, kx6, kx7, kx8, kr77_1, kr77_3, kr77_5, kr77_6, kr77_7, kr77_8, kr77_9, kr77_21, kr77_22, kr77_23, kr77_24, kr77_25, kr77_26, kr77_27, kr77_28, kr77_29, kr77_30, kr77_31, kr77_32, kr77_33, kr77_34, kr77_35, kr77_36, kr77_38, kr77_39, kr77_40, kr77_41, kr77_42, kr77_44, kr77_45, kr77_46, kr77_48, kr77_49, kr77_51, kr77_52, kr77_55, kr77_57, kr77_58, kr77_59, kr77_61, kr77_62, kr77_63, kr77_64, kr77_65, kl78, kl79, kl80, kl81, kl82, kl83, kl84, kl85, kl86, kl87, kl88, kl89, kl90, kl91, kl92, kl93, kl94, kl95, kl96, kl97, kl98, kl99, kl100, kl101, kl102, kl103, kl104, kl105, kl106, kl107, kl108, kl109, kl110, kl111, kl112, kl113, kl114, kl115, kl116, kl117, kl118, kl119, kl120, kl121, hτ.2.1, hτ.2.2.1.1]
    obtain ⟨τ', a1, a2, a3⟩ := kp_g265 (S := kp_upto S (fun y => kp_wr T y S.2.2.2) (kt_nd T)) hT hτ (fun d hd => by
      show kp_Dok (if d < kt_nd T then kp_wr T d S.2.2.2 (S.1 d) else S.1 d)
      rw [if_pos hd]
      exact kp_wr_ok hT (hD d hd) hd) (kt_nd T) 0 (by omega) kf_F (kf_F_gt (by omega)) τ kp_chM.rf (by rw [kp_upto_0]; exact h2)
    exact ⟨τ', a1, h1.tr (a2.mono (fun r h => by omega) (fun j h => h.elim)), a3⟩
  | succ m ih =>
    intro d hd fuel hf τ h1 h2
    obtain ⟨n, rfl⟩ := kp_fuel (show 0 < fuel by omega)
    show ∃ τ', f_X12_dayGoes_171_s _ 77 (nI d) τ = some τ' ∧ _
    have hτ := h.chM h1 (fun r e => by omega) (by omega)
    unfold f_X12_dayGoes_171_s
    simp (disch := omega) only [↓reduceIte, kz_lt, Option.bind_some, kz_ix, kz_leT, kz_leF, kz_ltT, kz_ltF, kz_lt0, kz_0le, kz_0ltT, kz_le0F, kz_eq0F, kz_10, kz_00, kz_11, kz_01, nI_clamp, nI_1, nI_add, pk_mul, kc0, kc1, kc2, kc3, kc4, kc5, kc6, kc7, kc8, kc9, kc10, kx0, kx1, kx2, kx3, kx4, kx5, kx6, kx7, kx8, kr77_1, kr77_3, kr77_5, kr77_6, kr77_7, kr77_8, kr77_9, kr77_21, kr77_22, kr77_23, kr77_24, kr77_25, kr77_26, kr77_27, kr77_28, kr77_29, kr77_30, kr77_31, kr77_32, kr77_33, kr77_34, kr77_35, kr77_36, kr77_38, kr77_39, kr77_40, kr77_41, kr77_42, kr77_44, kr77_45, kr77_46, kr77_48, kr77_49, kr77_51, kr77_52, kr77_55, kr77_57, kr77_58, kr77_59, kr77_61, kr77_62, kr77_63, kr77_64, kr77_65, kl78, kl79, kl80, kl81, kl82, kl83, kl84, kl85, kl86, kl87, kl88, kl89, kl90, kl91, kl92, kl93, kl94, kl95, kl96, kl97, kl98, kl99, kl100, kl101, kl102, kl103, kl104, kl105, kl106, kl107, kl108, kl109, kl110, kl111, kl112, kl113, kl114, kl115, kl116, kl117, kl118, kl119, kl120, kl121, hτ.2.1, hτ.2.2.1.1]
    obtain ⟨τ', a1, a2, a3⟩ := kp_g186 (rec := f_X12_dayGoes_171 n) hT hτ (show d < kt_nd T by omega) h2 (by rw [kp_upto_at]; exact hD d (by omega)) 4 0 rfl kf_F (kf_F_gt (by decide)) τ kp_chM.rf (fun q hq => absurd hq (Nat.not_lt_zero q))
    have a1' : f_X12_dayGoes_186 (f_X12_dayGoes_171 n) kf_F 77 (nI d) 0 τ = _ := a1
    rw [a1']
    rw [kp_upto_at] at a3
    exact ih (d + 1) (by omega) n (by omega) τ' (h1.tr a2) (by rw [← kp_upto_s]; exact a3)
