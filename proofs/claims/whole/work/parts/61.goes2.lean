/-! ===== pure: the reference's days: wind, rounds ===== -/
def kp_wsM (σ : kf_St) (ws : Int32) : Prop := (σ.1 77 54 = 1 ∧ ws = -1) ∨ (σ.1 77 54 = 0 ∧ σ.1 77 53 = ws ∧ ws ≠ -1)
/-- behind the wind: wear, idle, the next day -/
def kp_S3 (T : kp_T) (S : kp_S) : kp_S := ((kp_upto (kp_upto S (fun y => kp_wr T y S.2.2.2) (kt_nd T)) (fun _ => kp_id) (kt_nd T)).1, S.2.1, S.2.2.1, S.2.2.2 + 1)
theorem kp_g169 {T : kp_T} {lv : Nat} {σ : kf_St} {S : kp_S} (hT : kp_Tok T) (h : kp_MT T lv σ) (hD : ∀ d, d < kt_nd T → kp_Dok (S.1 d)) (hS : kp_fS (σ.1 112) S) : ∃ τ', f_X12_dayGoes_169 77 σ = some τ' ∧ kp_chM (fun r => r = 109 ∨ r = 110 ∨ r = 112 ∨ r = 113) (fun j => j = 50) σ τ' ∧ kp_fS (τ'.1 112) (kp_S3 T S) := by
  have h6 := hT.1.1
  exact kp_g171 hT h hD (kt_nd T) 0 (by omega) kf_F (kf_F_gt (by omega)) σ kp_chM.rf (by rw [kp_upto_0]; exact hS)
theorem kp_g103 {T : kp_T} {lv : Nat} {σ : kf_St} {S : kp_S} {ws : Int32} (hT : kp_Tok T) (h : kp_MT T lv σ) (hD : ∀ d, d < kt_nd T → kp_Dok (S.1 d)) (hw : ws ≠ -1) (hws : σ.1 77 53 = ws) (hb : kp_bl T ws S.2.2.2 = true) : ∀ (m d : Nat), d + m = kt_nd T → ∀ fuel, m < fuel → ∀ τ, kp_chM (fun r => r = 112) (fun _ => False) σ τ → kp_fS (τ.1 112) (kp_upto S (fun y => kp_wnd T ws S.2.2.2 y) d) → ∃ τ', f_X12_dayGoes_103 fuel 77 1 (nI d) τ = some τ' ∧ kp_chM (fun r => r = 109 ∨ r = 110 ∨ r = 112 ∨ r = 113) (fun j => j = 50) σ τ' ∧ kp_fS (τ'.1 112) (kp_S3 T (kp_upto S (fun y => kp_wnd T ws S.2.2.2 y) (kt_nd T))) := by
  have h6 := hT.1.1
  have hl := h.1
  have k69 : (kf_ix 69 70 = true) = True := eq_true (by decide)
  intro m
  induction m with
  | zero =>
    intro d hd fuel hf τ h1 h2
    obtain ⟨n, rfl⟩ := kp_fuel (show 0 < fuel by omega)
    obtain rfl : d = kt_nd T := by omega
    show ∃ τ', f_X12_dayGoes_103_s _ 77 1 (nI (kt_nd T)) τ = some τ' ∧ _
    have hτ := h.chM h1 (fun r e => by omega) (fun x => x)
    unfold f_X12_dayGoes_103_s
    simp (disch := omega) only [↓reduceIte, kz_lt, Option.bind_some, kz_ix, kz_leT, kz_leF, kz_ltT, kz_ltF, kz_lt0, kz_0le, kz_0ltT, kz_le0F, kz_eq0F, kz_10, kz_00, kz_11, kz_01, nI_clamp, nI_1, nI_add, pk_mul, kc0, kc1, kc2, kc3, kc4, kc5, kc6, kc7, kc8, kc9, kc10, kx0, kx1, kx2, kx3, kx4, kx5, kx6, kx7, kx8, kr77_1, kr77_3, kr77_5, kr77_6, kr77_7, kr77_8, kr77_9, kr77_21, kr77_22, kr77_23, kr77_24, kr77_25, kr77_26, kr77_27, kr77_28, kr77_29, kr77_30, kr77_31, kr77_32, kr77_33, kr77_34, kr77_35, kr77_36, kr77_38, kr77_39, kr77_40, kr77_41, kr77_42, kr77_44, kr77_45, kr77_46, kr77_48, kr77_49, kr77_51, kr77_52, kr77_55, kr77_57, kr77_58, kr77_59, kr77_61, kr77_62, kr77_63, kr77_64, kr77_65, kl78, kl79, kl80, kl81, kl82, kl83, kl84, kl85, kl86, kl87, kl88, kl89, kl90, kl91, kl92, kl93, kl94, kl95, kl96, kl97, kl98, kl99, kl100, kl101, kl102, kl103, kl104, kl105, kl106, kl107, kl108, kl109, kl110, kl111, kl112, kl113, kl114, kl115, kl116, kl117, kl118, kl119, kl120, kl121, hτ.2.1, hτ.2.2.1.1]
    obtain ⟨τ', a1, a2, a3⟩ := kp_g169 (S := kp_upto S (fun y => kp_wnd T ws S.2.2.2 y) (kt_nd T)) hT hτ (fun d hd => by
      show kp_Dok (if d < kt_nd T then kp_wnd T ws S.2.2.2 d (S.1 d) else S.1 d)
      rw [if_pos hd]
      exact kp_wnd_ok (hD d hd)) h2
    exact ⟨τ', a1, (h1.mono (fun r h => by omega) (fun j h => h.elim)).tr a2, a3⟩
  | succ m ih =>
    intro d hd fuel hf τ h1 h2
    obtain ⟨n, rfl⟩ := kp_fuel (show 0 < fuel by omega)
    show ∃ τ', f_X12_dayGoes_103_s _ 77 1 (nI d) τ = some τ' ∧ _
    have hτ := h.chM h1 (fun r e => by omega) (fun x => x)
    have hd6 : d < 6 := by omega
    have e69 : τ.1 112 69 = nI S.2.2.2 := h2.2.2.2
    have e53 : τ.1 77 53 = ws := (h1.2.1 53 (fun x => x)).trans hws
    obtain ⟨j, hj, ej⟩ := kp_lot_n (n := 4) (by decide) (by decide) ws (16 * nI S.2.2.2 + 1 + nI d)
    have ej' : kp_lot 4 ws (16 * nI S.2.2.2 + 1 + nI d) = nI j := ej
    obtain ⟨f0, f1, f2, f3, f4, f5⟩ := kp_fD_f ((h2.1 d hd6).trans kp_upto_at)
    unfold f_X12_dayGoes_103_s f_X12_dayGoes_163
    simp (disch := omega) only [↓reduceIte, kz_lt, Option.bind_some, kz_ix, kz_leT, kz_leF, kz_ltT, kz_ltF, kz_lt0, kz_0le, kz_0ltT, kz_le0F, kz_eq0F, kz_10, kz_00, kz_11, kz_01, nI_clamp, nI_1, nI_add, pk_mul, kc0, kc1, kc2, kc3, kc4, kc5, kc6, kc7, kc8, kc9, kc10, kx0, kx1, kx2, kx3, kx4, kx5, kx6, kx7, kx8, kr77_1, kr77_3, kr77_5, kr77_6, kr77_7, kr77_8, kr77_9, kr77_21, kr77_22, kr77_23, kr77_24, kr77_25, kr77_26, kr77_27, kr77_28, kr77_29, kr77_30, kr77_31, kr77_32, kr77_33, kr77_34, kr77_35, kr77_36, kr77_38, kr77_39, kr77_40, kr77_41, kr77_42, kr77_44, kr77_45, kr77_46, kr77_48, kr77_49, kr77_51, kr77_52, kr77_55, kr77_57, kr77_58, kr77_59, kr77_61, kr77_62, kr77_63, kr77_64, kr77_65, kl78, kl79, kl80, kl81, kl82, kl83, kl84, kl85, kl86, kl87, kl88, kl89, kl90, kl91, kl92, kl93, kl94, kl95, kl96, kl97, kl98, kl99, kl100, kl101, kl102, kl103, kl104, kl105, kl106, kl107, kl108, kl109, kl110, kl111, kl112, kl113, kl114, kl115, kl116, kl117, kl118, kl119, kl120, kl121, hτ.2.1, hτ.2.2.1.1, k69, kn69x, e69, kp_lotM (show ¬ nI 4 = 0 by decide), e53, ej, kn4, f0 j hj]
    have eW : kp_wnd T ws S.2.2.2 d (S.1 d) = (kd_cut (fun p => if nI p = nI j then kp_dec ((S.1 d).1 p) else (S.1 d).1 p), (S.1 d).2) := by
      unfold kp_wnd
      rw [if_neg hw, if_pos hb, ej']
    by_cases b : (S.1 d).1 j ≤ 0
    · rw [if_pos b]
      refine ih (d + 1) (by omega) n (by omega) τ h1 ?_
      rw [← kp_upto_s]
      refine h2.set hd6 (fun _ _ _ => rfl) ?_
      rw [eW]
      refine kp_fD_mk (fun q hq => ?_) f1 f2 f3 f4 f5
      rw [f0 q hq]
      by_cases e : q = j
      · rw [e, if_pos rfl]; unfold kp_dec; rw [if_pos b]
      · rw [if_neg (fun x => e ((nI_eq (by omega) (by omega)).mp x))]
    · rw [if_neg b]
      refine ih (d + 1) (by omega) n (by omega) _ (kp_chM.wi h1 rfl (by decide)) ?_
      rw [← kp_upto_s]
      refine h2.set hd6 (fun i hi hc => ?_) ?_
      · unfold kp_cell at hc
        rw [kp_wi_col (by omega)]
      rw [eW]
      refine kp_fD_mk (fun q hq => ?_) ?_ ?_ ?_ ?_ ?_
      · by_cases e : q = j
        · rw [e, kp_wi_same, if_pos rfl]; unfold kp_dec; rw [if_neg b]
        · rw [kp_wi_col (by omega), if_neg (fun x => e ((nI_eq (by omega) (by omega)).mp x)), f0 q hq]
      · rw [kp_wi_col (by omega)]; exact f1
      · rw [kp_wi_col (by omega)]; exact f2
      · rw [kp_wi_col (by omega)]; exact f3
      · rw [kp_wi_col (by omega)]; exact f4
      · rw [kp_wi_col (by omega)]; exact f5
/-! rounds -/
def kp_rnS (T : kp_T) (S : kp_S) : Nat → kp_S
  | 0 => S
  | r + 1 => if kp_cm T S.2.2.1 r S.2.2.2 = true then kp_lfS T (kp_rnS T S r) (kt_rd T r) (kt_rc T r) else kp_rnS T S r
def kp_by (T : kp_T) (K dy : Nat) : Nat → (Nat → Int32) → Nat → Int32
  | 0, B => B
  | r + 1, B => if kp_cm T K r dy = true then fun x => if x = kt_rc T r then kp_by T K dy r B (kt_rc T r) + 1 else kp_by T K dy r B x else kp_by T K dy r B
theorem kp_rnS_2 {T : kp_T} {S : kp_S} : ∀ r, (kp_rnS T S r).2.2 = S.2.2
  | 0 => rfl
  | r + 1 => by
    show (if kp_cm T S.2.2.1 r S.2.2.2 = true then kp_lfS T (kp_rnS T S r) (kt_rd T r) (kt_rc T r) else kp_rnS T S r).2.2 = _
    by_cases h : kp_cm T S.2.2.1 r S.2.2.2 = true
    · rw [if_pos h]; exact kp_rnS_2 r
    · rw [if_neg h]; exact kp_rnS_2 r
theorem kp_rnS_d {T : kp_T} {S : kp_S} (d : Nat) : ∀ r, (kp_rnS T S r).1 d = kp_rn T d S.2.2.1 S.2.2.2 r (S.1 d)
  | 0 => rfl
  | r + 1 => by
    have ih := kp_rnS_d (T := T) (S := S) d r
    have e2 := kp_rnS_2 (T := T) (S := S) r
    show (if kp_cm T S.2.2.1 r S.2.2.2 = true then kp_lfS T (kp_rnS T S r) (kt_rd T r) (kt_rc T r) else kp_rnS T S r).1 d = if kt_rd T r = d ∧ kp_cm T S.2.2.1 r S.2.2.2 = true then kp_lf T (kp_rn T d S.2.2.1 S.2.2.2 r (S.1 d)) (kt_rc T r) (nI S.2.2.2) else kp_rn T d S.2.2.1 S.2.2.2 r (S.1 d)
    by_cases h : kp_cm T S.2.2.1 r S.2.2.2 = true
    · rw [if_pos h]
      show (if d = kt_rd T r then kp_lf T ((kp_rnS T S r).1 (kt_rd T r)) (kt_rc T r) (nI (kp_rnS T S r).2.2.2) else (kp_rnS T S r).1 d) = _
      by_cases b : d = kt_rd T r
      · rw [if_pos b, if_pos ⟨b.symm, h⟩, ← b, ih, e2]
      · rw [if_neg b, if_neg (fun x => b x.1.symm), ih]
    · rw [if_neg h, if_neg (fun x => h x.2), ih]
theorem kp_rnS_b {T : kp_T} {S : kp_S} : ∀ r, (kp_rnS T S r).2.1 = kp_by T S.2.2.1 S.2.2.2 r S.2.1
  | 0 => rfl
  | r + 1 => by
    have ih := kp_rnS_b (T := T) (S := S) r
    show (if kp_cm T S.2.2.1 r S.2.2.2 = true then kp_lfS T (kp_rnS T S r) (kt_rd T r) (kt_rc T r) else kp_rnS T S r).2.1 = if kp_cm T S.2.2.1 r S.2.2.2 = true then fun x => if x = kt_rc T r then kp_by T S.2.2.1 S.2.2.2 r S.2.1 (kt_rc T r) + 1 else kp_by T S.2.2.1 S.2.2.2 r S.2.1 x else kp_by T S.2.2.1 S.2.2.2 r S.2.1
    by_cases h : kp_cm T S.2.2.1 r S.2.2.2 = true
    · rw [if_pos h, if_pos h, ← ih]; rfl
    · rw [if_neg h, if_neg h, ih]
def kp_dyS (T : kp_T) (ws : Int32) (S : kp_S) : kp_S := (fun x => if x < kt_nd T then kp_dy T x S.2.2.1 ws S.2.2.2 (S.1 x) else S.1 x, kp_by T S.2.2.1 S.2.2.2 (kt_nr T) S.2.1, S.2.2.1, S.2.2.2 + 1)
theorem kp_rn_out {T : kp_T} {d K dy : Nat} {D : kp_D} (hT : kp_Tok T) (hd : ¬ d < kt_nd T) : ∀ r, r ≤ kt_nr T → kp_rn T d K dy r D = D
  | 0, _ => rfl
  | r + 1, hr => by
    show (if kt_rd T r = d ∧ kp_cm T K r dy = true then kp_lf T (kp_rn T d K dy r D) (kt_rc T r) (nI dy) else kp_rn T d K dy r D) = D
    rw [if_neg (fun x => hd (by have := (hT.2.2.2.1 r (by omega)).2.1; omega)), kp_rn_out hT hd r (by omega)]
theorem kp_dyS_eq {T : kp_T} {ws : Int32} {S : kp_S} (hT : kp_Tok T) : kp_S3 T (kp_upto (kp_rnS T S (kt_nr T)) (fun y => kp_wnd T ws S.2.2.2 y) (kt_nd T)) = kp_dyS T ws S := by
  have e2 := kp_rnS_2 (T := T) (S := S) (kt_nr T)
  have eb := kp_rnS_b (T := T) (S := S) (kt_nr T)
  refine Prod.ext (funext fun x => ?_) (Prod.ext eb (Prod.ext ?_ ?_))
  · show (if x < kt_nd T then kp_id (if x < kt_nd T then kp_wr T x (kp_rnS T S (kt_nr T)).2.2.2 (if x < kt_nd T then kp_wnd T ws S.2.2.2 x ((kp_rnS T S (kt_nr T)).1 x) else (kp_rnS T S (kt_nr T)).1 x) else (if x < kt_nd T then kp_wnd T ws S.2.2.2 x ((kp_rnS T S (kt_nr T)).1 x) else (kp_rnS T S (kt_nr T)).1 x)) else (if x < kt_nd T then kp_wr T x (kp_rnS T S (kt_nr T)).2.2.2 (if x < kt_nd T then kp_wnd T ws S.2.2.2 x ((kp_rnS T S (kt_nr T)).1 x) else (kp_rnS T S (kt_nr T)).1 x) else (if x < kt_nd T then kp_wnd T ws S.2.2.2 x ((kp_rnS T S (kt_nr T)).1 x) else (kp_rnS T S (kt_nr T)).1 x))) = if x < kt_nd T then kp_dy T x S.2.2.1 ws S.2.2.2 (S.1 x) else S.1 x
    by_cases h : x < kt_nd T
    · simp only [if_pos h]
      rw [kp_rnS_d, e2]
      rfl
    · simp only [if_neg h]
      rw [kp_rnS_d, kp_rn_out hT h _ (Nat.le_refl _)]
  · show (kp_rnS T S (kt_nr T)).2.2.1 = S.2.2.1
    rw [e2]
  · show (kp_rnS T S (kt_nr T)).2.2.2 + 1 = S.2.2.2 + 1
    rw [e2]
theorem kp_g2 {T : kp_T} {lv : Nat} {σ : kf_St} {S : kp_S} {ws : Int32} (hT : kp_Tok T) (h : kp_MT T lv σ) (hD : ∀ d, d < kt_nd T → kp_Dok (S.1 d)) (hws : kp_wsM σ ws) (hy : S.2.2.2 < 2 ^ 30) : ∀ (m r : Nat), r + m = kt_nr T → ∀ fuel, m < fuel → ∀ τ, kp_chM (fun r => r = 109 ∨ r = 110 ∨ r = 112 ∨ r = 113) (fun j => j = 50) σ τ → kp_fS (τ.1 112) (kp_rnS T S r) → ∃ τ', f_X12_dayGoes_2 fuel 77 (nI r) τ = some τ' ∧ kp_chM (fun r => r = 109 ∨ r = 110 ∨ r = 112 ∨ r = 113) (fun j => j = 50) σ τ' ∧ kp_fS (τ'.1 112) (kp_dyS T ws S) := by
  have h6 := hT.1.1
  have h10 := hT.1.2.2
  have hl := h.1
  have k69 : (kf_ix 69 70 = true) = True := eq_true (by decide)
  intro m
  induction m with
  | zero =>
    intro r hr fuel hf τ h1 h2
    obtain ⟨n, rfl⟩ := kp_fuel (show 0 < fuel by omega)
    obtain rfl : r = kt_nr T := by omega
    show ∃ τ', f_X12_dayGoes_2_s _ 77 (nI (kt_nr T)) τ = some τ' ∧ _
    have hτ := h.chM h1 (fun r e => by omega) (by omega)
    have e2 := kp_rnS_2 (T := T) (S := S) (kt_nr T)
    have hD2 : ∀ d, d < kt_nd T → kp_Dok ((kp_rnS T S (kt_nr T)).1 d) := fun d hd => by rw [kp_rnS_d]; exact kp_rn_ok hT (hD d hd) _ (Nat.le_refl _)
    have e69 : τ.1 112 69 = nI S.2.2.2 := by rw [h2.2.2.2, e2]
    have e53 : τ.1 77 53 = σ.1 77 53 := h1.2.1 53 (by decide)
    have e54 : τ.1 77 54 = σ.1 77 54 := h1.2.1 54 (by decide)
    have plain : (kp_upto (kp_rnS T S (kt_nr T)) (fun y => kp_wnd T ws S.2.2.2 y) (kt_nd T)) = kp_rnS T S (kt_nr T) → ∃ τ', f_X12_dayGoes_99 77 τ = some τ' ∧ kp_chM (fun r => r = 109 ∨ r = 110 ∨ r = 112 ∨ r = 113) (fun j => j = 50) σ τ' ∧ kp_fS (τ'.1 112) (kp_dyS T ws S) := by
      intro ep
      obtain ⟨τ', a1, a2, a3⟩ := kp_g169 hT hτ hD2 h2
      refine ⟨τ', ?_, h1.tr a2, by rw [← kp_dyS_eq hT, ep]; exact a3⟩
      unfold f_X12_dayGoes_99 f_X12_dayGoes_100
      show f_X12_dayGoes_103_s _ 77 0 (nI 0) τ = _
      unfold f_X12_dayGoes_103_s
      simp (disch := omega) only [↓reduceIte, kz_lt, Option.bind_some, kz_ix, kz_leT, kz_leF, kz_ltT, kz_ltF, kz_lt0, kz_0le, kz_0ltT, kz_le0F, kz_eq0F, kz_10, kz_00, kz_11, kz_01, nI_clamp, nI_1, nI_add, pk_mul, kc0, kc1, kc2, kc3, kc4, kc5, kc6, kc7, kc8, kc9, kc10, kx0, kx1, kx2, kx3, kx4, kx5, kx6, kx7, kx8, kr77_1, kr77_3, kr77_5, kr77_6, kr77_7, kr77_8, kr77_9, kr77_21, kr77_22, kr77_23, kr77_24, kr77_25, kr77_26, kr77_27, kr77_28, kr77_29, kr77_30, kr77_31, kr77_32, kr77_33, kr77_34, kr77_35, kr77_36, kr77_38, kr77_39, kr77_40, kr77_41, kr77_42, kr77_44, kr77_45, kr77_46, kr77_48, kr77_49, kr77_51, kr77_52, kr77_55, kr77_57, kr77_58, kr77_59, kr77_61, kr77_62, kr77_63, kr77_64, kr77_65, kl78, kl79, kl80, kl81, kl82, kl83, kl84, kl85, kl86, kl87, kl88, kl89, kl90, kl91, kl92, kl93, kl94, kl95, kl96, kl97, kl98, kl99, kl100, kl101, kl102, kl103, kl104, kl105, kl106, kl107, kl108, kl109, kl110, kl111, kl112, kl113, kl114, kl115, kl116, kl117, kl118, kl119, kl120, kl121, hτ.2.1, hτ.2.2.1.1, a1]
      by_cases b : nI (kt_nd T) ≤ nI 0
      · rw [if_pos b]
      · rw [if_neg b]
    unfold f_X12_dayGoes_2_s
    simp (disch := omega) only [↓reduceIte, kz_lt, Option.bind_some, kz_ix, kz_leT, kz_leF, kz_ltT, kz_ltF, kz_lt0, kz_0le, kz_0ltT, kz_le0F, kz_eq0F, kz_10, kz_00, kz_11, kz_01, nI_clamp, nI_1, nI_add, pk_mul, kc0, kc1, kc2, kc3, kc4, kc5, kc6, kc7, kc8, kc9, kc10, kx0, kx1, kx2, kx3, kx4, kx5, kx6, kx7, kx8, kr77_1, kr77_3, kr77_5, kr77_6, kr77_7, kr77_8, kr77_9, kr77_21, kr77_22, kr77_23, kr77_24, kr77_25, kr77_26, kr77_27, kr77_28, kr77_29, kr77_30, kr77_31, kr77_32, kr77_33, kr77_34, kr77_35, kr77_36, kr77_38, kr77_39, kr77_40, kr77_41, kr77_42, kr77_44, kr77_45, kr77_46, kr77_48, kr77_49, kr77_51, kr77_52, kr77_55, kr77_57, kr77_58, kr77_59, kr77_61, kr77_62, kr77_63, kr77_64, kr77_65, kl78, kl79, kl80, kl81, kl82, kl83, kl84, kl85, kl86, kl87, kl88, kl89, kl90, kl91, kl92, kl93, kl94, kl95, kl96, kl97, kl98, kl99, kl100, kl101, kl102, kl103, kl104, kl105, kl106, kl107, kl108, kl109, kl110, kl111, kl112, kl113, kl114, kl115, kl116, kl117, kl118, kl119, kl120, kl121, hτ.2.1, hτ.2.2.1.2.2, e54, kp_isWindM hτ e69, e53]
    rcases hws with ⟨w1, w2⟩ | ⟨w1, w2, w3⟩
    · rw [w1, if_neg (by decide)]
      refine plain (Prod.ext (funext fun x => ?_) rfl)
      show (if x < kt_nd T then kp_wnd T ws S.2.2.2 x ((kp_rnS T S (kt_nr T)).1 x) else (kp_rnS T S (kt_nr T)).1 x) = _
      unfold kp_wnd
      rw [if_pos w2]
      by_cases b : x < kt_nd T
      · rw [if_pos b]
      · rw [if_neg b]
    · rw [w1, w2, if_pos rfl]
      by_cases wb : kp_bl T ws S.2.2.2 = true
      · rw [if_pos wb, if_neg (by decide)]
        unfold f_X12_dayGoes_100
        obtain ⟨τ', a1, a2, a3⟩ := kp_g103 (S := kp_rnS T S (kt_nr T)) (ws := ws) hT hτ hD2 w3 (e53.trans w2) (by rw [e2]; exact wb) (kt_nd T) 0 (by omega) kf_F (kf_F_gt (by omega)) τ kp_chM.rf (by rw [kp_upto_0]; exact h2)
        rw [e2, kp_dyS_eq hT] at a3
        exact ⟨τ', a1, h1.tr a2, a3⟩
      · rw [if_neg wb, if_pos rfl]
        refine plain (Prod.ext (funext fun x => ?_) rfl)
        show (if x < kt_nd T then kp_wnd T ws S.2.2.2 x ((kp_rnS T S (kt_nr T)).1 x) else (kp_rnS T S (kt_nr T)).1 x) = _
        unfold kp_wnd
        rw [if_neg w3, if_neg wb]
        by_cases b : x < kt_nd T
        · rw [if_pos b]
        · rw [if_neg b]
  | succ m ih =>
    intro r hr fuel hf τ h1 h2
    obtain ⟨n, rfl⟩ := kp_fuel (show 0 < fuel by omega)
    show ∃ τ', f_X12_dayGoes_2_s _ 77 (nI r) τ = some τ' ∧ _
    have hτ := h.chM h1 (fun r e => by omega) (by omega)
    have e2 := kp_rnS_2 (T := T) (S := S) r
    have e69 : τ.1 112 69 = nI S.2.2.2 := by rw [h2.2.2.2, e2]
    have e54 : τ.1 112 (54 + r) = nI (kp_bt S.2.2.1 r) := by rw [h2.2.2.1 r (by omega), e2]
    obtain ⟨t1, t2, -⟩ := hT.2.2.2.1 r (by omega)
    obtain ⟨c1, c2, -⟩ := hτ.2.2.2.2.2.2.1 r (by omega)
    have nx := ih (r + 1) (by omega) n (by omega)
    rw [show kp_rnS T S (r + 1) = if kp_cm T S.2.2.1 r S.2.2.2 = true then kp_lfS T (kp_rnS T S r) (kt_rd T r) (kt_rc T r) else kp_rnS T S r from rfl] at nx
    unfold f_X12_dayGoes_2_s f_X12_dayGoes_75
    simp (disch := omega) only [↓reduceIte, kz_lt, Option.bind_some, kz_ix, kz_leT, kz_leF, kz_ltT, kz_ltF, kz_lt0, kz_0le, kz_0ltT, kz_le0F, kz_eq0F, kz_10, kz_00, kz_11, kz_01, nI_clamp, nI_1, nI_add, pk_mul, kn2, kn3, kn4, kn5, kn6, kn7, kn8, kn9, kn10, kn16, kn20, kn24, kn30, kn32, kn36, kn40, kn41, kn42, kn48, kn54, kn60, kn61, kn64, kn70, kn99, kn100, kc0, kc1, kc2, kc3, kc4, kc5, kc6, kc7, kc8, kc9, kc10, kx0, kx1, kx2, kx3, kx4, kx5, kx6, kx7, kx8, kr77_1, kr77_3, kr77_5, kr77_6, kr77_7, kr77_8, kr77_9, kr77_21, kr77_22, kr77_23, kr77_24, kr77_25, kr77_26, kr77_27, kr77_28, kr77_29, kr77_30, kr77_31, kr77_32, kr77_33, kr77_34, kr77_35, kr77_36, kr77_38, kr77_39, kr77_40, kr77_41, kr77_42, kr77_44, kr77_45, kr77_46, kr77_48, kr77_49, kr77_51, kr77_52, kr77_55, kr77_57, kr77_58, kr77_59, kr77_61, kr77_62, kr77_63, kr77_64, kr77_65, kl78, kl79, kl80, kl81, kl82, kl83, kl84, kl85, kl86, kl87, kl88, kl89, kl90, kl91, kl92, kl93, kl94, kl95, kl96, kl97, kl98, kl99, kl100, kl101, kl102, kl103, kl104, kl105, kl106, kl107, kl108, kl109, kl110, kl111, kl112, kl113, kl114, kl115, kl116, kl117, kl118, kl119, kl120, kl121, hτ.2.1, hτ.2.2.1.2.2, e54, k69, kn69x, e69, kp_isDueM hT hτ (show r < kt_nr T by omega) hy, c1, c2]
    unfold kp_cm at nx
    by_cases b1 : kp_bt S.2.2.1 r = 1
    · rw [b1, if_pos (show nI 1 = 1 from rfl)]
      by_cases b2 : kp_due T r S.2.2.2 = true
      · rw [if_pos b2, if_neg (by decide)]
        rw [if_pos (by rw [b1, b2]; rfl)] at nx
        obtain ⟨τ', a1, a2, a3⟩ := kp_lifted hT hτ (show kt_rd T r < 6 by omega) t1 h2 (by rw [kp_rnS_d]; exact kp_rn_ok hT (hD _ t2) _ (by omega))
        rw [a1, Option.bind_some]
        exact nx τ' (h1.tr a2) a3
      · rw [if_neg b2, if_pos rfl]
        rw [if_neg (by rw [Bool.and_eq_true]; exact fun x => b2 x.2)] at nx
        exact nx τ h1 h2
    · rw [if_neg (show ¬ nI (kp_bt S.2.2.1 r) = 1 from fun x => b1 ((nI_eq (b := 1) (by have : kp_bt S.2.2.1 r < 2 := Nat.mod_lt _ (by decide); omega) (by decide)).mp x))]
      rw [if_neg (by rw [Bool.and_eq_true]; exact fun x => b1 (of_decide_eq_true x.1))] at nx
      exact nx τ h1 h2
theorem kp_dayGoes {T : kp_T} {lv : Nat} {σ : kf_St} {S : kp_S} {ws : Int32} (hT : kp_Tok T) (h : kp_MT T lv σ) (hS : kp_fS (σ.1 112) S) (hD : ∀ d, d < kt_nd T → kp_Dok (S.1 d)) (hws : kp_wsM σ ws) (hy : S.2.2.2 < 2 ^ 30) : ∃ σ', f_X12_dayGoes 77 σ = some σ' ∧ kp_chM (fun r => r = 109 ∨ r = 110 ∨ r = 112 ∨ r = 113) (fun j => j = 50) σ σ' ∧ kp_fS (σ'.1 112) (kp_dyS T ws S) := by
  have h10 := hT.1.2.2
  exact kp_g2 hT h hD hws hy (kt_nr T) 0 (by omega) kf_F (kf_F_gt (by omega)) σ kp_chM.rf hS
