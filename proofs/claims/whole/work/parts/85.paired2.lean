/-! ===== pure: paired, the reference and both ===== -/
theorem kp_ar (x y a b : Int32) : (x - y) + (a - b) = (x + a) - (y + b) := by
  simp only [Int32.sub_eq_add_neg, Int32.neg_add]
  ac_rfl
theorem kp_sle {a b k : Nat} (ha : a < 2 ^ 30) (hb : b < 2 ^ 30) (hk : k < 2 ^ 30) : (nI a - nI k ≤ nI b - nI k) ↔ a ≤ b := by
  rw [kp_leI, pk_sub_toInt ha hk, pk_sub_toInt hb hk]
  omega
theorem kp_seq {a b k : Nat} (ha : a < 2 ^ 30) (hb : b < 2 ^ 30) (hk : k < 2 ^ 30) : (nI a - nI k = nI b - nI k) ↔ a = b := by
  rw [← Int32.toInt_inj, pk_sub_toInt ha hk, pk_sub_toInt hb hk]
  omega
def kp_tM (A : kp_A) (E : Nat) (τ : kf_St) : Prop := ∀ e, e ≤ E → ∀ t, t < 32 → τ.1 115 (32 * (kt_nd (ka_T A) - e) + t) = nI (kp_LL (kt_nd (ka_T A)) (kp_U A) (kt_nc (ka_T A)) e t) - nI (10000 * e)
theorem kM_sw {A : kp_A} {k lv : Nat} (hA : kp_Aok A k) {σ : kf_St} (h : kp_MT (ka_T A) lv σ) (hS : kp_fS (σ.1 112) (ka_S A)) {e t c : Nat} (ht : t < 32) (he : e < kt_nd (ka_T A)) (hc : c < kt_nc (ka_T A)) (hb : kp_bt t c = 0) (tb : kp_tM A e σ) : f_X12_with 77 (nI (kt_nd (ka_T A) - (e + 1))) (nI c) (nI t) σ = some (nI (kp_U A (kt_nd (ka_T A) - (e + 1)) c + kp_LL (kt_nd (ka_T A)) (kp_U A) (kt_nc (ka_T A)) e (t + 2 ^ c)) - nI (10000 * (e + 1)), σ) := by
  have h6 := hA.1.1.1
  have h5 := hA.1.1.2.1
  obtain ⟨o1, o2⟩ := kp_or5 t ht c (by omega) hb
  obtain ⟨u1, u2⟩ := kp_U_n hA (show kt_nd (ka_T A) - (e + 1) < kt_nd (ka_T A) by omega) hc
  have un := kM_unF hA.1 h hS (show kt_nd (ka_T A) - (e + 1) < 6 by omega) hc
  rw [u1] at un
  have tv := tb e (Nat.le_refl _) (t + 2 ^ c) o2
  rw [show 32 * (kt_nd (ka_T A) - e) + (t + 2 ^ c) = 32 * (kt_nd (ka_T A) - (e + 1)) + 32 + (t + 2 ^ c) by omega] at tv
  unfold f_X12_with
  simp (disch := omega) only [↓reduceIte, kz_lt, Option.bind_some, kz_ix, kz_leT, kz_leF, kz_ltT, kz_ltF, kz_lt0, kz_0le, kz_0ltT, kz_le0F, kz_eq0F, kz_10, kz_00, kz_11, kz_01, nI_clamp, nI_1, nI_add, pk_mul, kn2, kn3, kn4, kn5, kn6, kn7, kn8, kn9, kn10, kn16, kn20, kn24, kn30, kn32, kn36, kn40, kn41, kn42, kn48, kn54, kn60, kn61, kn64, kn69, kn70, kn99, kn100, kc0, kc1, kc2, kc3, kc4, kc5, kc6, kc7, kc8, kc9, kc10, kx0, kx1, kx2, kx3, kx4, kx5, kx6, kx7, kx8, kr77_1, kr77_3, kr77_5, kr77_6, kr77_7, kr77_8, kr77_9, kr77_21, kr77_22, kr77_23, kr77_24, kr77_25, kr77_26, kr77_27, kr77_28, kr77_29, kr77_30, kr77_31, kr77_32, kr77_33, kr77_34, kr77_35, kr77_36, kr77_38, kr77_39, kr77_40, kr77_41, kr77_42, kr77_44, kr77_45, kr77_46, kr77_48, kr77_49, kr77_51, kr77_52, kr77_55, kr77_57, kr77_58, kr77_59, kr77_61, kr77_62, kr77_63, kr77_64, kr77_65, kl78, kl79, kl80, kl81, kl82, kl83, kl84, kl85, kl86, kl87, kl88, kl89, kl90, kl91, kl92, kl93, kl94, kl95, kl96, kl97, kl98, kl99, kl100, kl101, kl102, kl103, kl104, kl105, kl106, kl107, kl108, kl109, kl110, kl111, kl112, kl113, kl114, kl115, kl116, kl117, kl118, kl119, kl120, kl121, un, o1, tv]
  refine congrArg some (Prod.ext ?_ rfl)
  show nI _ - 10000 + (nI _ - nI _) = _
  rw [kp_ar, nI_add, show (10000 : Int32) = nI 10000 from rfl, nI_add, show 10000 + 10000 * e = 10000 * (e + 1) by omega]
theorem kM_f80 {A : kp_A} {k lv : Nat} (hA : kp_Aok A k) {σ : kf_St} (h : kp_MT (ka_T A) lv σ) (hS : kp_fS (σ.1 112) (ka_S A)) {e t : Nat} (ht : t < 32) (he : e < kt_nd (ka_T A)) (tb : kp_tM A e σ) (rec1 : Nat → Int32 → kf_St → Option kf_St) (rec2 : Nat → Int32 → Int32 → kf_St → Option kf_St) : f_X12_fillsPaired_80 rec1 rec2 kf_F 77 (nI (kt_nd (ka_T A) - (e + 1))) (nI t) (nI (kp_LL (kt_nd (ka_T A)) (kp_U A) (kt_nc (ka_T A)) e t) - nI (10000 * e)) 0 σ = rec2 77 (nI (kt_nd (ka_T A) - (e + 1))) (nI (t + 1)) (kf_wi σ 115 (32 * (kt_nd (ka_T A) - (e + 1)) + t) (nI (kp_LL (kt_nd (ka_T A)) (kp_U A) (kt_nc (ka_T A)) (e + 1) t) - nI (10000 * (e + 1)))) := by
  have h6 := hA.1.1.1
  have h5 := hA.1.1.2.1
  have hl := h.1
  rw [kp_LL_s]
  have e0 : nI (kp_LL (kt_nd (ka_T A)) (kp_U A) (kt_nc (ka_T A)) e t) - nI (10000 * e) = nI (10000 + kp_LL (kt_nd (ka_T A)) (kp_U A) (kt_nc (ka_T A)) e t) - nI (10000 * (e + 1)) := by
    have := kp_ar (nI 10000) (nI 10000) (nI (kp_LL (kt_nd (ka_T A)) (kp_U A) (kt_nc (ka_T A)) e t)) (nI (10000 * e))
    rw [Int32.sub_self, Int32.zero_add, nI_add, nI_add, show 10000 + 10000 * e = 10000 * (e + 1) by omega] at this
    exact this
  rw [e0]
  generalize hu : kp_U A (kt_nd (ka_T A) - (e + 1)) = u
  have hL : ∀ t, kp_LL (kt_nd (ka_T A)) (kp_U A) (kt_nc (ka_T A)) e t ≤ 60000 := fun t => kp_LLb hA (by omega) t
  generalize hg : kp_LL (kt_nd (ka_T A)) (kp_U A) (kt_nc (ka_T A)) e = L at hL
  refine kp_run (n := kt_nc (ka_T A)) (fun i f => f_X12_fillsPaired_80 rec1 rec2 f 77 (nI (kt_nd (ka_T A) - (e + 1))) (nI t) (nI (kp_lm u t L i) - nI (10000 * (e + 1))) (nI i) σ = rec2 77 (nI (kt_nd (ka_T A) - (e + 1))) (nI (t + 1)) (kf_wi σ 115 (32 * (kt_nd (ka_T A) - (e + 1)) + t) (nI (kp_lm u t L (kt_nc (ka_T A))) - nI (10000 * (e + 1))))) (by omega) (fun f => ?_) (fun i hi f ih => ?_)
  · show f_X12_fillsPaired_80_s _ _ _ 77 _ _ _ (nI (kt_nc (ka_T A))) σ = _
    unfold f_X12_fillsPaired_80_s
    simp (disch := omega) only [↓reduceIte, kz_lt, Option.bind_some, kz_ix, kz_leT, kz_leF, kz_ltT, kz_ltF, kz_lt0, kz_0le, kz_0ltT, kz_le0F, kz_eq0F, kz_10, kz_00, kz_11, kz_01, nI_clamp, nI_1, nI_add, pk_mul, kn2, kn3, kn4, kn5, kn6, kn7, kn8, kn9, kn10, kn16, kn20, kn24, kn30, kn32, kn36, kn40, kn41, kn42, kn48, kn54, kn60, kn61, kn64, kn69, kn70, kn99, kn100, kc0, kc1, kc2, kc3, kc4, kc5, kc6, kc7, kc8, kc9, kc10, kx0, kx1, kx2, kx3, kx4, kx5, kx6, kx7, kx8, kr77_1, kr77_3, kr77_5, kr77_6, kr77_7, kr77_8, kr77_9, kr77_21, kr77_22, kr77_23, kr77_24, kr77_25, kr77_26, kr77_27, kr77_28, kr77_29, kr77_30, kr77_31, kr77_32, kr77_33, kr77_34, kr77_35, kr77_36, kr77_38, kr77_39, kr77_40, kr77_41, kr77_42, kr77_44, kr77_45, kr77_46, kr77_48, kr77_49, kr77_51, kr77_52, kr77_55, kr77_57, kr77_58, kr77_59, kr77_61, kr77_62, kr77_63, kr77_64, kr77_65, kl78, kl79, kl80, kl81, kl82, kl83, kl84, kl85, kl86, kl87, kl88, kl89, kl90, kl91, kl92, kl93, kl94, kl95, kl96, kl97, kl98, kl99, kl100, kl101, kl102, kl103, kl104, kl105, kl106, kl107, kl108, kl109, kl110, kl111, kl112, kl113, kl114, kl115, kl116, kl117, kl118, kl119, kl120, kl121, h.2.1, h.2.2.1.2.1]
  · show f_X12_fillsPaired_80_s _ _ _ 77 _ _ _ (nI i) σ = _
    unfold f_X12_fillsPaired_80_s f_X12_fillsPaired_124
    have b2 : kp_bt t i < 2 := Nat.mod_lt _ (by decide)
    have bb := kp_bit (K := t) (r := i) (by omega) (by omega)
    rw [kp_lm_s] at ih
    have l1 := kp_lm_le u t L i
    have l2 := hL t
    by_cases b : kp_bt t i = 0
    · rw [if_pos b] at ih
      have sw := kM_sw hA h hS ht he hi b tb
      rw [hu, hg] at sw
      obtain ⟨u1, u2⟩ := kp_U_n hA (show kt_nd (ka_T A) - (e + 1) < kt_nd (ka_T A) by omega) hi
      rw [hu] at u2
      have l3 := hL (t + 2 ^ i)
      rw [b] at bb
      simp (disch := omega) only [↓reduceIte, kz_lt, Option.bind_some, kz_ix, kz_leT, kz_leF, kz_ltT, kz_ltF, kz_lt0, kz_0le, kz_0ltT, kz_le0F, kz_eq0F, kz_10, kz_00, kz_11, kz_01, nI_clamp, nI_1, nI_add, pk_mul, kc0, kc1, kc2, kc3, kc4, kc5, kc6, kc7, kc8, kc9, kc10, kx0, kx1, kx2, kx3, kx4, kx5, kx6, kx7, kx8, kr77_1, kr77_3, kr77_5, kr77_6, kr77_7, kr77_8, kr77_9, kr77_21, kr77_22, kr77_23, kr77_24, kr77_25, kr77_26, kr77_27, kr77_28, kr77_29, kr77_30, kr77_31, kr77_32, kr77_33, kr77_34, kr77_35, kr77_36, kr77_38, kr77_39, kr77_40, kr77_41, kr77_42, kr77_44, kr77_45, kr77_46, kr77_48, kr77_49, kr77_51, kr77_52, kr77_55, kr77_57, kr77_58, kr77_59, kr77_61, kr77_62, kr77_63, kr77_64, kr77_65, kl78, kl79, kl80, kl81, kl82, kl83, kl84, kl85, kl86, kl87, kl88, kl89, kl90, kl91, kl92, kl93, kl94, kl95, kl96, kl97, kl98, kl99, kl100, kl101, kl102, kl103, kl104, kl105, kl106, kl107, kl108, kl109, kl110, kl111, kl112, kl113, kl114, kl115, kl116, kl117, kl118, kl119, kl120, kl121, h.2.1, h.2.2.1.2.1, bb, sw]
      rw [if_pos (show nI 0 = 0 from rfl)]
      by_cases q : kp_lm u t L i ≤ u i + L (t + 2 ^ i)
      · rw [if_pos ((kp_sle (by omega) (by omega) (by omega)).mpr q)]
        rw [Nat.min_eq_left q] at ih
        exact ih
      · rw [if_neg (fun x => q ((kp_sle (by omega) (by omega) (by omega)).mp x))]
        rw [Nat.min_eq_right (by omega)] at ih
        exact ih
    · rw [if_neg b] at ih
      have nb : (nI (kp_bt t i) = 0) = False := kz_eq0F (by omega) (by omega)
      simp (disch := omega) only [↓reduceIte, kz_lt, Option.bind_some, kz_ix, kz_leT, kz_leF, kz_ltT, kz_ltF, kz_lt0, kz_0le, kz_0ltT, kz_le0F, kz_eq0F, kz_10, kz_00, kz_11, kz_01, nI_clamp, nI_1, nI_add, pk_mul, kc0, kc1, kc2, kc3, kc4, kc5, kc6, kc7, kc8, kc9, kc10, kx0, kx1, kx2, kx3, kx4, kx5, kx6, kx7, kx8, kr77_1, kr77_3, kr77_5, kr77_6, kr77_7, kr77_8, kr77_9, kr77_21, kr77_22, kr77_23, kr77_24, kr77_25, kr77_26, kr77_27, kr77_28, kr77_29, kr77_30, kr77_31, kr77_32, kr77_33, kr77_34, kr77_35, kr77_36, kr77_38, kr77_39, kr77_40, kr77_41, kr77_42, kr77_44, kr77_45, kr77_46, kr77_48, kr77_49, kr77_51, kr77_52, kr77_55, kr77_57, kr77_58, kr77_59, kr77_61, kr77_62, kr77_63, kr77_64, kr77_65, kl78, kl79, kl80, kl81, kl82, kl83, kl84, kl85, kl86, kl87, kl88, kl89, kl90, kl91, kl92, kl93, kl94, kl95, kl96, kl97, kl98, kl99, kl100, kl101, kl102, kl103, kl104, kl105, kl106, kl107, kl108, kl109, kl110, kl111, kl112, kl113, kl114, kl115, kl116, kl117, kl118, kl119, kl120, kl121, h.2.1, h.2.2.1.2.1, bb, nb]
      exact ih
theorem kM_f56 {A : kp_A} {k lv : Nat} (hA : kp_Aok A k) {σ : kf_St} (h : kp_MT (ka_T A) lv σ) (hS : kp_fS (σ.1 112) (ka_S A)) {e : Nat} (he : e < kt_nd (ka_T A)) (rec : Nat → Int32 → kf_St → Option kf_St) {τ0 : kf_St} (c0 : kp_chM (fun r => r = 115) (fun _ => False) σ τ0) (tb : kp_tM A e τ0) : ∃ τ, f_X12_fillsPaired_56 rec kf_F 77 (nI (kt_nd (ka_T A) - (e + 1))) 0 τ0 = rec 77 (nI (kt_nd (ka_T A) - (e + 1)) + (-1)) τ ∧ kp_chM (fun r => r = 115) (fun _ => False) σ τ ∧ kp_tM A (e + 1) τ := by
  have h6 := hA.1.1.1
  refine kp_run (n := 32) (fun i f => ∀ τ, kp_chM (fun r => r = 115) (fun _ => False) σ τ → kp_tM A e τ → (∀ t, t < i → τ.1 115 (32 * (kt_nd (ka_T A) - (e + 1)) + t) = nI (kp_LL (kt_nd (ka_T A)) (kp_U A) (kt_nc (ka_T A)) (e + 1) t) - nI (10000 * (e + 1))) → ∃ τ', f_X12_fillsPaired_56 rec f 77 (nI (kt_nd (ka_T A) - (e + 1))) (nI i) τ = rec 77 (nI (kt_nd (ka_T A) - (e + 1)) + (-1)) τ' ∧ kp_chM (fun r => r = 115) (fun _ => False) σ τ' ∧ kp_tM A (e + 1) τ') (by decide) (fun f τ cc tb ht => ?_) (fun i hi f ih τ cc tb ht => ?_) τ0 c0 tb (fun t ht => absurd ht (Nat.not_lt_zero t))
  · refine ⟨τ, ?_, cc, fun q hq t ht' => ?_⟩
    · show f_X12_fillsPaired_56_s _ _ 77 _ (nI 32) τ = _
      unfold f_X12_fillsPaired_56_s
      rw [if_pos (by decide)]
      rfl
    · by_cases b : q = e + 1
      · rw [b]; exact ht t ht'
      · exact tb q (by omega) t ht'
  · have h' := h.chM cc (fun r e => by omega) (by intro x; exact x)
    have hS' : kp_fS (τ.1 112) (ka_S A) := by rw [cc.1 112 (by decide) (by decide)]; exact hS
    have lf := kM_f80 hA h' hS' hi he tb rec (f_X12_fillsPaired_56 rec f)
    have tv := tb e (Nat.le_refl _) i hi
    rw [show 32 * (kt_nd (ka_T A) - e) + i = 32 * (kt_nd (ka_T A) - (e + 1)) + 32 + i by omega] at tv
    obtain ⟨τ', r1, r2⟩ := ih (kf_wi τ 115 (32 * (kt_nd (ka_T A) - (e + 1)) + i) (nI (kp_LL (kt_nd (ka_T A)) (kp_U A) (kt_nc (ka_T A)) (e + 1) i) - nI (10000 * (e + 1)))) (kp_chM.wi cc rfl (by decide)) (fun q hq t ht' => by rw [kp_wi_col (by omega)]; exact tb q hq t ht') (fun t ht' => by
      by_cases b : t = i
      · rw [b, kp_wi_same]
      · rw [kp_wi_col (by omega)]; exact ht t (by omega))
    refine ⟨τ', ?_, r2⟩
    show f_X12_fillsPaired_56_s _ _ 77 _ (nI i) τ = _
    unfold f_X12_fillsPaired_56_s
    simp (disch := omega) only [↓reduceIte, kz_lt, Option.bind_some, kz_ix, kz_leT, kz_leF, kz_ltT, kz_ltF, kz_lt0, kz_0le, kz_0ltT, kz_le0F, kz_eq0F, kz_10, kz_00, kz_11, kz_01, nI_clamp, nI_1, nI_add, pk_mul, kn2, kn3, kn4, kn5, kn6, kn7, kn8, kn9, kn10, kn16, kn20, kn24, kn30, kn32, kn36, kn40, kn41, kn42, kn48, kn54, kn60, kn61, kn64, kn69, kn70, kn99, kn100, kc0, kc1, kc2, kc3, kc4, kc5, kc6, kc7, kc8, kc9, kc10, kx0, kx1, kx2, kx3, kx4, kx5, kx6, kx7, kx8, kr77_1, kr77_3, kr77_5, kr77_6, kr77_7, kr77_8, kr77_9, kr77_21, kr77_22, kr77_23, kr77_24, kr77_25, kr77_26, kr77_27, kr77_28, kr77_29, kr77_30, kr77_31, kr77_32, kr77_33, kr77_34, kr77_35, kr77_36, kr77_38, kr77_39, kr77_40, kr77_41, kr77_42, kr77_44, kr77_45, kr77_46, kr77_48, kr77_49, kr77_51, kr77_52, kr77_55, kr77_57, kr77_58, kr77_59, kr77_61, kr77_62, kr77_63, kr77_64, kr77_65, kl78, kl79, kl80, kl81, kl82, kl83, kl84, kl85, kl86, kl87, kl88, kl89, kl90, kl91, kl92, kl93, kl94, kl95, kl96, kl97, kl98, kl99, kl100, kl101, kl102, kl103, kl104, kl105, kl106, kl107, kl108, kl109, kl110, kl111, kl112, kl113, kl114, kl115, kl116, kl117, kl118, kl119, kl120, kl121, tv]
    exact lf.trans r1
theorem kM_fp {A : kp_A} {k : Nat} (hA : kp_Aok A k) {σ : kf_St} (h : kp_Mr A σ) : ∃ lv τ, f_X12_fillsPaired 77 σ = some τ ∧ kp_chM kp_xM kp_jM σ τ ∧ kp_MT (ka_T A) lv τ ∧ kp_fS (τ.1 112) (ka_S A) ∧ kp_tM A (kt_nd (ka_T A)) τ := by
  have h6 := hA.1.1.1
  obtain ⟨lv, σ', e, c', hm0, hm, hs, -⟩ := kM_co hA h
  have hl := hm.1
  have down : ∀ j, j ≤ kt_nd (ka_T A) → ∀ f, j < f → ∀ τ, kp_chM (fun r => r = 115) (fun _ => False) σ' τ → kp_tM A (kt_nd (ka_T A) - j) τ → ∃ τ', f_X12_fillsPaired_50 f 77 (nI j - 1) τ = some τ' ∧ kp_chM (fun r => r = 115) (fun _ => False) σ' τ' ∧ kp_tM A (kt_nd (ka_T A)) τ' := by
    intro j
    induction j with
    | zero =>
      intro _ f hf τ cc tb
      obtain ⟨g, rfl⟩ := kp_fuel (show 0 < f by omega)
      refine ⟨τ, ?_, cc, tb⟩
      show f_X12_fillsPaired_50_s _ 77 (nI 0 - 1) τ = _
      unfold f_X12_fillsPaired_50_s
      exact if_pos (by decide)
    | succ j ih =>
      intro hj f hf τ cc tb
      obtain ⟨g, rfl⟩ := kp_fuel (show 0 < f by omega)
      obtain ⟨τ1, a1, a2, a3⟩ := kM_f56 hA hm hs (e := kt_nd (ka_T A) - (j + 1)) (by omega) (f_X12_fillsPaired_50 g) cc tb
      rw [show kt_nd (ka_T A) - (kt_nd (ka_T A) - (j + 1) + 1) = j by omega] at a1
      rw [show kt_nd (ka_T A) - (j + 1) + 1 = kt_nd (ka_T A) - j by omega] at a3
      obtain ⟨τ', b1, b2⟩ := ih (by omega) g (by omega) τ1 a2 a3
      refine ⟨τ', ?_, b2⟩
      show f_X12_fillsPaired_50_s _ 77 (nI (j + 1) - 1) τ = _
      unfold f_X12_fillsPaired_50_s
      rw [nI_pred, if_neg (nI_pos (by omega)), a1, show nI j + (-1) = nI j - 1 from (Int32.sub_eq_add_neg _ _).symm]
      exact b1
  have main : ∃ τ', f_X12_fillsPaired_6 kf_F 77 0 σ' = some τ' ∧ kp_chM (fun r => r = 115) (fun _ => False) σ' τ' ∧ kp_tM A (kt_nd (ka_T A)) τ' := by
    refine kp_run (n := 32) (fun i f => ∀ τ, kp_chM (fun r => r = 115) (fun _ => False) σ' τ → (∀ t, t < i → τ.1 115 (32 * kt_nd (ka_T A) + t) = 0) → ∃ τ', f_X12_fillsPaired_6 f 77 (nI i) τ = some τ' ∧ kp_chM (fun r => r = 115) (fun _ => False) σ' τ' ∧ kp_tM A (kt_nd (ka_T A)) τ') (by decide) (fun f τ cc ht => ?_) (fun i hi f ih τ cc ht => ?_) σ' kp_chM.rf (fun t ht => absurd ht (Nat.not_lt_zero t))
    · have h' := hm.chM cc (fun r e => by omega) (by intro x; exact x)
      obtain ⟨τ', a1, a2⟩ := down (kt_nd (ka_T A)) (Nat.le_refl _) kf_F (kf_F_gt (by omega)) τ cc (fun e he t ht' => by
        obtain rfl : e = 0 := by omega
        rw [Nat.sub_zero, ht t ht']
        exact (show (0 : Int32) = nI 0 - nI 0 by decide))
      refine ⟨τ', ?_, a2⟩
      show f_X12_fillsPaired_6_s _ 77 (nI 32) τ = _
      unfold f_X12_fillsPaired_6_s
      rw [if_pos (by decide)]
      simp (disch := omega) only [↓reduceIte, kz_lt, Option.bind_some, kz_ix, kz_leT, kz_leF, kz_ltT, kz_ltF, kz_lt0, kz_0le, kz_0ltT, kz_le0F, kz_eq0F, kz_10, kz_00, kz_11, kz_01, nI_clamp, nI_1, nI_add, pk_mul, kc0, kc1, kc2, kc3, kc4, kc5, kc6, kc7, kc8, kc9, kc10, kx0, kx1, kx2, kx3, kx4, kx5, kx6, kx7, kx8, kr77_1, kr77_3, kr77_5, kr77_6, kr77_7, kr77_8, kr77_9, kr77_21, kr77_22, kr77_23, kr77_24, kr77_25, kr77_26, kr77_27, kr77_28, kr77_29, kr77_30, kr77_31, kr77_32, kr77_33, kr77_34, kr77_35, kr77_36, kr77_38, kr77_39, kr77_40, kr77_41, kr77_42, kr77_44, kr77_45, kr77_46, kr77_48, kr77_49, kr77_51, kr77_52, kr77_55, kr77_57, kr77_58, kr77_59, kr77_61, kr77_62, kr77_63, kr77_64, kr77_65, kl78, kl79, kl80, kl81, kl82, kl83, kl84, kl85, kl86, kl87, kl88, kl89, kl90, kl91, kl92, kl93, kl94, kl95, kl96, kl97, kl98, kl99, kl100, kl101, kl102, kl103, kl104, kl105, kl106, kl107, kl108, kl109, kl110, kl111, kl112, kl113, kl114, kl115, kl116, kl117, kl118, kl119, kl120, kl121, h'.2.1, h'.2.2.1.1]
      exact a1
    · have h' := hm.chM cc (fun r e => by omega) (by intro x; exact x)
      obtain ⟨τ', r1, r2⟩ := ih (kf_wi τ 115 (32 * kt_nd (ka_T A) + i) 0) (kp_chM.wi cc rfl (by decide)) (fun t ht' => by
        by_cases b : t = i
        · rw [b, kp_wi_same]
        · rw [kp_wi_col (by omega)]; exact ht t (by omega))
      refine ⟨τ', ?_, r2⟩
      show f_X12_fillsPaired_6_s _ 77 (nI i) τ = _
      unfold f_X12_fillsPaired_6_s
      simp (disch := omega) only [↓reduceIte, kz_lt, Option.bind_some, kz_ix, kz_leT, kz_leF, kz_ltT, kz_ltF, kz_lt0, kz_0le, kz_0ltT, kz_le0F, kz_eq0F, kz_10, kz_00, kz_11, kz_01, nI_clamp, nI_1, nI_add, pk_mul, kn2, kn3, kn4, kn5, kn6, kn7, kn8, kn9, kn10, kn16, kn20, kn24, kn30, kn32, kn36, kn40, kn41, kn42, kn48, kn54, kn60, kn61, kn64, kn69, kn70, kn99, kn100, kc0, kc1, kc2, kc3, kc4, kc5, kc6, kc7, kc8, kc9, kc10, kx0, kx1, kx2, kx3, kx4, kx5, kx6, kx7, kx8, kr77_1, kr77_3, kr77_5, kr77_6, kr77_7, kr77_8, kr77_9, kr77_21, kr77_22, kr77_23, kr77_24, kr77_25, kr77_26, kr77_27, kr77_28, kr77_29, kr77_30, kr77_31, kr77_32, kr77_33, kr77_34, kr77_35, kr77_36, kr77_38, kr77_39, kr77_40, kr77_41, kr77_42, kr77_44, kr77_45, kr77_46, kr77_48, kr77_49, kr77_51, kr77_52, kr77_55, kr77_57, kr77_58, kr77_59, kr77_61, kr77_62, kr77_63, kr77_64, kr77_65, kl78, kl79, kl80, kl81, kl82, kl83, kl84, kl85, kl86, kl87, kl88, kl89, kl90, kl91, kl92, kl93, kl94, kl95, kl96, kl97, kl98, kl99, kl100, kl101, kl102, kl103, kl104, kl105, kl106, kl107, kl108, kl109, kl110, kl111, kl112, kl113, kl114, kl115, kl116, kl117, kl118, kl119, kl120, kl121, h'.2.1, h'.2.2.1.1]
      exact r1
  obtain ⟨τ', m1, m2, m3⟩ := main
  have m2' : kp_chM kp_xM kp_jM σ' τ' := m2.mono (fun r e => by unfold kp_xM; omega) (fun r e => e.elim)
  refine ⟨lv, τ', ?_, c'.tr m2', kM_wm hm m2', ?_, m3⟩
  · unfold f_X12_fillsPaired
    rw [e, Option.bind_some]
    exact m1
  · rw [m2.1 112 (by decide) (by decide)]; exact hs
theorem kM_low {A : kp_A} {k lv : Nat} (hA : kp_Aok A k) {σ : kf_St} (h : kp_MT (ka_T A) lv σ) (hS : kp_fS (σ.1 112) (ka_S A)) {d t : Nat} (ht : t < 32) (hd : d < kt_nd (ka_T A)) (tb : kp_tM A (kt_nd (ka_T A)) σ) : f_X12_lowestFor 77 (nI d) (nI t) σ = some (kp_pI (kt_nc (ka_T A)) (kp_pf A d t), σ) := by
  have h6 := hA.1.1.1
  have h5 := hA.1.1.2.1
  have hl := h.1
  unfold f_X12_lowestFor kp_pf
  refine kp_run (n := kt_nc (ka_T A)) (fun i f => f_X12_lowestFor_2 f 77 (nI d) (nI t) (nI i) σ = some (kp_pI (kt_nc (ka_T A)) (kp_fn (kp_pg A d t) (kt_nc (ka_T A) - i) i), σ)) (by omega) (fun f => ?_) (fun i hi f ih => ?_)
  · show f_X12_lowestFor_2_s _ 77 _ _ (nI (kt_nc (ka_T A))) σ = _
    unfold f_X12_lowestFor_2_s
    simp (disch := omega) only [↓reduceIte, kz_lt, Option.bind_some, kz_ix, kz_leT, kz_leF, kz_ltT, kz_ltF, kz_lt0, kz_0le, kz_0ltT, kz_le0F, kz_eq0F, kz_10, kz_00, kz_11, kz_01, nI_clamp, nI_1, nI_add, pk_mul, kc0, kc1, kc2, kc3, kc4, kc5, kc6, kc7, kc8, kc9, kc10, kx0, kx1, kx2, kx3, kx4, kx5, kx6, kx7, kx8, kr77_1, kr77_3, kr77_5, kr77_6, kr77_7, kr77_8, kr77_9, kr77_21, kr77_22, kr77_23, kr77_24, kr77_25, kr77_26, kr77_27, kr77_28, kr77_29, kr77_30, kr77_31, kr77_32, kr77_33, kr77_34, kr77_35, kr77_36, kr77_38, kr77_39, kr77_40, kr77_41, kr77_42, kr77_44, kr77_45, kr77_46, kr77_48, kr77_49, kr77_51, kr77_52, kr77_55, kr77_57, kr77_58, kr77_59, kr77_61, kr77_62, kr77_63, kr77_64, kr77_65, kl78, kl79, kl80, kl81, kl82, kl83, kl84, kl85, kl86, kl87, kl88, kl89, kl90, kl91, kl92, kl93, kl94, kl95, kl96, kl97, kl98, kl99, kl100, kl101, kl102, kl103, kl104, kl105, kl106, kl107, kl108, kl109, kl110, kl111, kl112, kl113, kl114, kl115, kl116, kl117, kl118, kl119, kl120, kl121, h.2.1, h.2.2.1.2.1]
    rw [Nat.sub_self]
    unfold kp_pI kp_fn
    rw [if_neg (Nat.lt_irrefl _)]
  · show f_X12_lowestFor_2_s _ 77 _ _ (nI i) σ = _
    unfold f_X12_lowestFor_2_s f_X12_lowestFor_46
    have b2 : kp_bt t i < 2 := Nat.mod_lt _ (by decide)
    have bb := kp_bit (K := t) (r := i) (by omega) (by omega)
    rw [kp_fn_s hi]
    by_cases b : kp_bt t i = 0
    · have sw := kM_sw hA h hS (e := kt_nd (ka_T A) - (d + 1)) ht (by omega) hi b (fun e he t ht => tb e (by omega) t ht)
      rw [show kt_nd (ka_T A) - (kt_nd (ka_T A) - (d + 1) + 1) = d by omega] at sw
      have tv := tb (kt_nd (ka_T A) - d) (by omega) t ht
      rw [show kt_nd (ka_T A) - (kt_nd (ka_T A) - d) = d by omega] at tv
      have l1 := kp_LLb hA (e := kt_nd (ka_T A) - (d + 1)) (by omega) (t + 2 ^ i)
      have l2 := kp_LLb hA (e := kt_nd (ka_T A) - d) (by omega) t
      have u2 := (kp_U_n hA hd hi).2
      have ed : kt_nd (ka_T A) - (d + 1) + 1 = kt_nd (ka_T A) - d := by omega
      rw [ed] at sw
      rw [b] at bb
      have k32 : (32 : Int32) * nI d = nI (32 * d) := pk_mul 32 d
      simp (disch := omega) only [↓reduceIte, kz_lt, Option.bind_some, kz_ix, kz_leT, kz_leF, kz_ltT, kz_ltF, kz_lt0, kz_0le, kz_0ltT, kz_le0F, kz_eq0F, kz_10, kz_00, kz_11, kz_01, nI_clamp, nI_1, nI_add, pk_mul, kc0, kc1, kc2, kc3, kc4, kc5, kc6, kc7, kc8, kc9, kc10, kx0, kx1, kx2, kx3, kx4, kx5, kx6, kx7, kx8, kr77_1, kr77_3, kr77_5, kr77_6, kr77_7, kr77_8, kr77_9, kr77_21, kr77_22, kr77_23, kr77_24, kr77_25, kr77_26, kr77_27, kr77_28, kr77_29, kr77_30, kr77_31, kr77_32, kr77_33, kr77_34, kr77_35, kr77_36, kr77_38, kr77_39, kr77_40, kr77_41, kr77_42, kr77_44, kr77_45, kr77_46, kr77_48, kr77_49, kr77_51, kr77_52, kr77_55, kr77_57, kr77_58, kr77_59, kr77_61, kr77_62, kr77_63, kr77_64, kr77_65, kl78, kl79, kl80, kl81, kl82, kl83, kl84, kl85, kl86, kl87, kl88, kl89, kl90, kl91, kl92, kl93, kl94, kl95, kl96, kl97, kl98, kl99, kl100, kl101, kl102, kl103, kl104, kl105, kl106, kl107, kl108, kl109, kl110, kl111, kl112, kl113, kl114, kl115, kl116, kl117, kl118, kl119, kl120, kl121, h.2.1, h.2.2.1.2.1, bb, sw, k32, tv]
      rw [if_pos (show nI 0 = 0 from rfl)]
      by_cases g : kp_pg A d t i = true
      · rw [if_pos g, if_pos (by rw [(kp_pg_t.mp g).2])]
        unfold kp_pI
        rw [if_pos hi]
      · rw [if_neg g, if_neg (fun e => g (kp_pg_t.mpr ⟨b, (kp_seq (by omega) (by omega) (by omega)).mp e⟩))]
        exact ih
    · have nb : (nI (kp_bt t i) = 0) = False := kz_eq0F (by omega) (by omega)
      rw [if_neg (fun g => b (kp_pg_t.mp g).1)]
      simp (disch := omega) only [↓reduceIte, kz_lt, Option.bind_some, kz_ix, kz_leT, kz_leF, kz_ltT, kz_ltF, kz_lt0, kz_0le, kz_0ltT, kz_le0F, kz_eq0F, kz_10, kz_00, kz_11, kz_01, nI_clamp, nI_1, nI_add, pk_mul, kc0, kc1, kc2, kc3, kc4, kc5, kc6, kc7, kc8, kc9, kc10, kx0, kx1, kx2, kx3, kx4, kx5, kx6, kx7, kx8, kr77_1, kr77_3, kr77_5, kr77_6, kr77_7, kr77_8, kr77_9, kr77_21, kr77_22, kr77_23, kr77_24, kr77_25, kr77_26, kr77_27, kr77_28, kr77_29, kr77_30, kr77_31, kr77_32, kr77_33, kr77_34, kr77_35, kr77_36, kr77_38, kr77_39, kr77_40, kr77_41, kr77_42, kr77_44, kr77_45, kr77_46, kr77_48, kr77_49, kr77_51, kr77_52, kr77_55, kr77_57, kr77_58, kr77_59, kr77_61, kr77_62, kr77_63, kr77_64, kr77_65, kl78, kl79, kl80, kl81, kl82, kl83, kl84, kl85, kl86, kl87, kl88, kl89, kl90, kl91, kl92, kl93, kl94, kl95, kl96, kl97, kl98, kl99, kl100, kl101, kl102, kl103, kl104, kl105, kl106, kl107, kl108, kl109, kl110, kl111, kl112, kl113, kl114, kl115, kl116, kl117, kl118, kl119, kl120, kl121, h.2.1, h.2.2.1.2.1, bb, nb]
      exact ih
theorem kM_p85 {A : kp_A} {k lv : Nat} (hA : kp_Aok A k) {σ : kf_St} (h : kp_MT (ka_T A) lv σ) (hS : kp_fS (σ.1 112) (ka_S A)) {w : Nat} (hw : w < kt_nd (ka_T A)) (tb : kp_tM A (kt_nd (ka_T A)) σ) : f_X12_paired_85 kf_F 77 (nI w) 0 0 σ = some (kp_pI (kt_nc (ka_T A)) (kp_pf A w (kp_tk A w)), σ) := by
  have h6 := hA.1.1.1
  have h5 := hA.1.1.2.1
  refine kp_run (n := w) (fun i f => f_X12_paired_85 f 77 (nI w) (nI (kp_tk A i)) (nI i) σ = some (kp_pI (kt_nc (ka_T A)) (kp_pf A w (kp_tk A w)), σ)) (by omega) (fun f => ?_) (fun i hi f ih => ?_)
  · show f_X12_paired_85_s _ 77 (nI w) _ (nI w) σ = _
    unfold f_X12_paired_85_s
    rw [if_pos (nI_le (Nat.le_refl _) (by omega)), kM_low hA h hS (kp_tk_lt hA w) hw tb]
    rfl
  · have t32 := kp_tk_lt hA i
    have low := kM_low hA h hS t32 (show i < kt_nd (ka_T A) by omega) tb
    rw [kp_tk_s] at ih
    show f_X12_paired_85_s _ 77 (nI w) _ (nI i) σ = _
    unfold f_X12_paired_85_s f_X12_paired_112
    rw [if_neg (nI_ge hi (by omega)), low, Option.bind_some]
    rcases kp_pfv hA i (kp_tk A i) with ⟨e1, e2⟩ | ⟨e1, e2⟩
    · rw [e2]
      rw [if_pos e1] at ih
      have o := (kp_or5 _ t32 _ (by omega) (kp_pf_g e1)).1
      dsimp only
      rw [if_neg (nI_pos (by omega))]
      simp only [kf_lt]
      rw [o, nI_1]
      exact ih
    · rw [e2]
      rw [if_neg e1] at ih
      dsimp only
      rw [if_pos kp_m2]
      simp only [kf_lt]
      rw [nI_1]
      exact ih
theorem kp_m1is {x : Int32} {n : Nat} (hn : n < 2 ^ 31) (e : x = -1) : ¬ kp_is x n = true := fun h => by
  obtain ⟨j, hj, q⟩ := kp_is_t hn h
  rw [e] at q
  exact kp_se1 (n := j) (by omega) q.symm
theorem kq_paired {A : kp_A} {k : Nat} (hA : kp_Aok A k) (x : Int32) : kp_qq A (f_X11_paired 0 x) (f_X12_paired 77 x) := by
  have h6 := hA.1.1.1
  have h5 := hA.1.1.2.1
  by_cases hm1 : x = -1
  · subst hm1
    have LB := kp_LL_b (D := kt_nd (ka_T A)) (U := kp_U A) (nc := kt_nc (ka_T A)) h5 (fun d hd c hc => (kp_U_n hA hd hc).2) (kt_nd (ka_T A)) (Nat.le_refl _) 0 (by decide)
    rw [kp_fr_0 _ h5] at LB
    generalize hL : kp_LL (kt_nd (ka_T A)) (kp_U A) (kt_nc (ka_T A)) (kt_nd (ka_T A)) 0 = L at LB
    refine ⟨nI (L % 10000), fun σ h => ?_, fun σ h => ?_⟩
    · obtain ⟨τ, a1, a2, a3⟩ := kC_fb hA h
      have tv := a3 (kt_nd (ka_T A)) (Nat.le_refl _) 0 (by decide)
      rw [Nat.sub_self, hL] at tv
      have tv' : τ.1 71 0 = nI L := tv
      have e1 : nI L - nI L / 10000 * 10000 = nI (L % 10000) := pk_rem (d := 10000) (by omega) (by decide) (by decide)
      have z : ((10000 : Int32) = 0) = False := eq_false (by decide)
      refine ⟨τ, ?_, a2⟩
      unfold f_X11_paired f_X11_paired_18 f_X5_leastSum
      rw [if_pos rfl]
      simp (disch := omega) only [↓reduceIte, kz_lt, Option.bind_some, kz_ix, kz_leT, kz_leF, kz_ltT, kz_ltF, kz_lt0, kz_0le, kz_0ltT, kz_le0F, kz_eq0F, kz_10, kz_00, kz_11, kz_01, nI_clamp, nI_1, nI_add, kc0, kc1, kc2, kc3, kc4, kc5, kc6, kc7, kc8, kc9, kc10, kx0, kx1, kx2, kx3, kx4, kx5, kx6, kx7, kx8, kr0_0, kr0_1, kr0_2, kr0_3, kr0_4, kr0_5, kr0_6, kr0_7, kr0_8, kr0_9, kr1_1, kr1_2, kr1_3, kr1_4, kr1_5, kr7_6, kr7_7, kr7_8, kr7_9, kr7_10, kr7_11, kr7_12, kr7_13, kr7_14, kr7_15, kr7_16, kr16_1, kr16_2, kr19_1, kr19_2, kr22_1, kr22_2, kr25_6, kr25_7, kr25_8, kr25_9, kr25_10, kr25_11, kr25_12, kr25_13, kr25_14, kr25_15, kr25_16, kr34_1, kr34_2, kr37_1, kr37_2, kr40_1, kr40_2, kr43_2, kr43_3, kr44_0, kr44_1, kr44_4, kr46_0, kr48_0, kr50_0, kr52_0, kr54_0, kr56_0, kr60_3, kr60_4, kr63_0, kr63_1, kr63_2, kr66_0, kr66_1, kr66_2, kr66_3, kr66_4, kr67_0, kr70_0, kr70_1, kr70_2, kr72_1, kr72_2, kr72_3, kr72_4, kr72_5, kr72_6, kr72_7, kl2, kl3, kl4, kl5, kl6, kl8, kl9, kl10, kl11, kl12, kl13, kl14, kl15, kl17, kl18, kl20, kl21, kl23, kl24, kl26, kl27, kl28, kl29, kl30, kl31, kl32, kl33, kl35, kl36, kl38, kl39, kl41, kl42, kl45, kl47, kl49, kl51, kl53, kl55, kl57, kl58, kl59, kl61, kl62, kl64, kl65, kl68, kl69, kl71, kl73, kl74, kl75, kl76, a1, z, tv']
      rw [e1]
    · obtain ⟨lv, τ, a1, a2, a3, a4, a5⟩ := kM_fp hA h
      have hl := a3.1
      have tv := a5 (kt_nd (ka_T A)) (Nat.le_refl _) 0 (by decide)
      rw [Nat.sub_self, hL] at tv
      have tv' : τ.1 115 0 = nI L - nI (10000 * kt_nd (ka_T A)) := tv
      refine ⟨τ, ?_, a2⟩
      have fin : ∀ m, m = min (kt_nd (ka_T A)) (kt_nc (ka_T A)) → nI L - nI (10000 * kt_nd (ka_T A)) + nI (10000 * m) = nI (L % 10000) := by
        intro m hm
        have := kp_ar (nI L) (nI (10000 * kt_nd (ka_T A))) (nI (10000 * m)) (nI 0)
        rw [show nI (10000 * m) - nI 0 = nI (10000 * m) from pk_sub (b := 0) (by omega)] at this
        rw [this, nI_add, nI_add, pk_sub (by omega)]
        exact congrArg nI (by omega)
      have k1 : ∀ m, (10000 : Int32) * nI m = nI (10000 * m) := fun m => pk_mul 10000 m
      unfold f_X12_paired f_X12_paired_15 f_X12_paired_61
      rw [if_pos rfl, a1, Option.bind_some]
      by_cases b : kt_nc (ka_T A) ≤ kt_nd (ka_T A)
      · simp (disch := omega) only [↓reduceIte, kz_lt, Option.bind_some, kz_ix, kz_leT, kz_leF, kz_ltT, kz_ltF, kz_lt0, kz_0le, kz_0ltT, kz_le0F, kz_eq0F, kz_10, kz_00, kz_11, kz_01, nI_clamp, nI_1, nI_add, pk_mul, kc0, kc1, kc2, kc3, kc4, kc5, kc6, kc7, kc8, kc9, kc10, kx0, kx1, kx2, kx3, kx4, kx5, kx6, kx7, kx8, kr77_1, kr77_3, kr77_5, kr77_6, kr77_7, kr77_8, kr77_9, kr77_21, kr77_22, kr77_23, kr77_24, kr77_25, kr77_26, kr77_27, kr77_28, kr77_29, kr77_30, kr77_31, kr77_32, kr77_33, kr77_34, kr77_35, kr77_36, kr77_38, kr77_39, kr77_40, kr77_41, kr77_42, kr77_44, kr77_45, kr77_46, kr77_48, kr77_49, kr77_51, kr77_52, kr77_55, kr77_57, kr77_58, kr77_59, kr77_61, kr77_62, kr77_63, kr77_64, kr77_65, kl78, kl79, kl80, kl81, kl82, kl83, kl84, kl85, kl86, kl87, kl88, kl89, kl90, kl91, kl92, kl93, kl94, kl95, kl96, kl97, kl98, kl99, kl100, kl101, kl102, kl103, kl104, kl105, kl106, kl107, kl108, kl109, kl110, kl111, kl112, kl113, kl114, kl115, kl116, kl117, kl118, kl119, kl120, kl121, a3.2.1, a3.2.2.1.1, a3.2.2.1.2.1, tv', k1]
        rw [fin _ (by omega)]
      · simp (disch := omega) only [↓reduceIte, kz_lt, Option.bind_some, kz_ix, kz_leT, kz_leF, kz_ltT, kz_ltF, kz_lt0, kz_0le, kz_0ltT, kz_le0F, kz_eq0F, kz_10, kz_00, kz_11, kz_01, nI_clamp, nI_1, nI_add, pk_mul, kc0, kc1, kc2, kc3, kc4, kc5, kc6, kc7, kc8, kc9, kc10, kx0, kx1, kx2, kx3, kx4, kx5, kx6, kx7, kx8, kr77_1, kr77_3, kr77_5, kr77_6, kr77_7, kr77_8, kr77_9, kr77_21, kr77_22, kr77_23, kr77_24, kr77_25, kr77_26, kr77_27, kr77_28, kr77_29, kr77_30, kr77_31, kr77_32, kr77_33, kr77_34, kr77_35, kr77_36, kr77_38, kr77_39, kr77_40, kr77_41, kr77_42, kr77_44, kr77_45, kr77_46, kr77_48, kr77_49, kr77_51, kr77_52, kr77_55, kr77_57, kr77_58, kr77_59, kr77_61, kr77_62, kr77_63, kr77_64, kr77_65, kl78, kl79, kl80, kl81, kl82, kl83, kl84, kl85, kl86, kl87, kl88, kl89, kl90, kl91, kl92, kl93, kl94, kl95, kl96, kl97, kl98, kl99, kl100, kl101, kl102, kl103, kl104, kl105, kl106, kl107, kl108, kl109, kl110, kl111, kl112, kl113, kl114, kl115, kl116, kl117, kl118, kl119, kl120, kl121, a3.2.1, a3.2.2.1.1, a3.2.2.1.2.1, tv', k1]
        rw [fin _ (by omega)]
  · by_cases hx : kp_is x (kt_nd (ka_T A)) = true
    · obtain ⟨w, hw, rfl⟩ := kp_is_t (by omega) hx
      refine ⟨kp_pI (kt_nc (ka_T A)) (kp_pf A w (kp_tk A w)), fun σ h => ?_, fun σ h => ?_⟩
      · obtain ⟨τ, a1, a2, a3⟩ := kC_fb hA h
        have pof := kC_pof hA (h.ch hA a2) hw a3
        refine ⟨τ, ?_, a2⟩
        unfold f_X11_paired f_X11_paired_18
        simp (disch := omega) only [↓reduceIte, kz_lt, Option.bind_some, kz_ix, kz_leT, kz_leF, kz_ltT, kz_ltF, kz_lt0, kz_0le, kz_0ltT, kz_le0F, kz_eq0F, kz_10, kz_00, kz_11, kz_01, nI_clamp, nI_1, nI_add, pk_mul, kc0, kc1, kc2, kc3, kc4, kc5, kc6, kc7, kc8, kc9, kc10, kx0, kx1, kx2, kx3, kx4, kx5, kx6, kx7, kx8, kr0_0, kr0_1, kr0_2, kr0_3, kr0_4, kr0_5, kr0_6, kr0_7, kr0_8, kr0_9, kr1_1, kr1_2, kr1_3, kr1_4, kr1_5, kr7_6, kr7_7, kr7_8, kr7_9, kr7_10, kr7_11, kr7_12, kr7_13, kr7_14, kr7_15, kr7_16, kr16_1, kr16_2, kr19_1, kr19_2, kr22_1, kr22_2, kr25_6, kr25_7, kr25_8, kr25_9, kr25_10, kr25_11, kr25_12, kr25_13, kr25_14, kr25_15, kr25_16, kr34_1, kr34_2, kr37_1, kr37_2, kr40_1, kr40_2, kr43_2, kr43_3, kr44_0, kr44_1, kr44_4, kr46_0, kr48_0, kr50_0, kr52_0, kr54_0, kr56_0, kr60_3, kr60_4, kr63_0, kr63_1, kr63_2, kr66_0, kr66_1, kr66_2, kr66_3, kr66_4, kr67_0, kr70_0, kr70_1, kr70_2, kr72_1, kr72_2, kr72_3, kr72_4, kr72_5, kr72_6, kr72_7, kl2, kl3, kl4, kl5, kl6, kl8, kl9, kl10, kl11, kl12, kl13, kl14, kl15, kl17, kl18, kl20, kl21, kl23, kl24, kl26, kl27, kl28, kl29, kl30, kl31, kl32, kl33, kl35, kl36, kl38, kl39, kl41, kl42, kl45, kl47, kl49, kl51, kl53, kl55, kl57, kl58, kl59, kl61, kl62, kl64, kl65, kl68, kl69, kl71, kl73, kl74, kl75, kl76, hm1, kC_door hA h hw, a1, pof]
      · obtain ⟨lv, τ, a1, a2, a3, a4, a5⟩ := kM_fp hA h
        have hl := a3.1
        obtain ⟨lv2, hm⟩ := h.1
        have p := kM_p85 hA a3 a4 hw a5
        refine ⟨τ, ?_, a2⟩
        unfold f_X12_paired f_X12_paired_15 f_X12_paired_61
        by_cases b : kt_nc (ka_T A) ≤ kt_nd (ka_T A)
        · simp (disch := omega) only [↓reduceIte, kz_lt, Option.bind_some, kz_ix, kz_leT, kz_leF, kz_ltT, kz_ltF, kz_lt0, kz_0le, kz_0ltT, kz_le0F, kz_eq0F, kz_10, kz_00, kz_11, kz_01, nI_clamp, nI_1, nI_add, pk_mul, kc0, kc1, kc2, kc3, kc4, kc5, kc6, kc7, kc8, kc9, kc10, kx0, kx1, kx2, kx3, kx4, kx5, kx6, kx7, kx8, kr77_1, kr77_3, kr77_5, kr77_6, kr77_7, kr77_8, kr77_9, kr77_21, kr77_22, kr77_23, kr77_24, kr77_25, kr77_26, kr77_27, kr77_28, kr77_29, kr77_30, kr77_31, kr77_32, kr77_33, kr77_34, kr77_35, kr77_36, kr77_38, kr77_39, kr77_40, kr77_41, kr77_42, kr77_44, kr77_45, kr77_46, kr77_48, kr77_49, kr77_51, kr77_52, kr77_55, kr77_57, kr77_58, kr77_59, kr77_61, kr77_62, kr77_63, kr77_64, kr77_65, kl78, kl79, kl80, kl81, kl82, kl83, kl84, kl85, kl86, kl87, kl88, kl89, kl90, kl91, kl92, kl93, kl94, kl95, kl96, kl97, kl98, kl99, kl100, kl101, kl102, kl103, kl104, kl105, kl106, kl107, kl108, kl109, kl110, kl111, kl112, kl113, kl114, kl115, kl116, kl117, kl118, kl119, kl120, kl121, hm1, kM_door hA.1 hm hw, a1, a3.2.1, a3.2.2.1.1, a3.2.2.1.2.1, p]
        · simp (disch := omega) only [↓reduceIte, kz_lt, Option.bind_some, kz_ix, kz_leT, kz_leF, kz_ltT, kz_ltF, kz_lt0, kz_0le, kz_0ltT, kz_le0F, kz_eq0F, kz_10, kz_00, kz_11, kz_01, nI_clamp, nI_1, nI_add, pk_mul, kc0, kc1, kc2, kc3, kc4, kc5, kc6, kc7, kc8, kc9, kc10, kx0, kx1, kx2, kx3, kx4, kx5, kx6, kx7, kx8, kr77_1, kr77_3, kr77_5, kr77_6, kr77_7, kr77_8, kr77_9, kr77_21, kr77_22, kr77_23, kr77_24, kr77_25, kr77_26, kr77_27, kr77_28, kr77_29, kr77_30, kr77_31, kr77_32, kr77_33, kr77_34, kr77_35, kr77_36, kr77_38, kr77_39, kr77_40, kr77_41, kr77_42, kr77_44, kr77_45, kr77_46, kr77_48, kr77_49, kr77_51, kr77_52, kr77_55, kr77_57, kr77_58, kr77_59, kr77_61, kr77_62, kr77_63, kr77_64, kr77_65, kl78, kl79, kl80, kl81, kl82, kl83, kl84, kl85, kl86, kl87, kl88, kl89, kl90, kl91, kl92, kl93, kl94, kl95, kl96, kl97, kl98, kl99, kl100, kl101, kl102, kl103, kl104, kl105, kl106, kl107, kl108, kl109, kl110, kl111, kl112, kl113, kl114, kl115, kl116, kl117, kl118, kl119, kl120, kl121, hm1, kM_door hA.1 hm hw, a1, a3.2.1, a3.2.2.1.1, a3.2.2.1.2.1, p]
    · refine kp_qq.st (-1) (fun σ h => ?_) (fun σ h => ?_)
      · unfold f_X11_paired
        simp (disch := omega) only [↓reduceIte, kz_lt, Option.bind_some, kz_ix, kz_leT, kz_leF, kz_ltT, kz_ltF, kz_lt0, kz_0le, kz_0ltT, kz_le0F, kz_eq0F, kz_10, kz_00, kz_11, kz_01, nI_clamp, nI_1, nI_add, pk_mul, kc0, kc1, kc2, kc3, kc4, kc5, kc6, kc7, kc8, kc9, kc10, kx0, kx1, kx2, kx3, kx4, kx5, kx6, kx7, kx8, kr0_0, kr0_1, kr0_2, kr0_3, kr0_4, kr0_5, kr0_6, kr0_7, kr0_8, kr0_9, kr1_1, kr1_2, kr1_3, kr1_4, kr1_5, kr7_6, kr7_7, kr7_8, kr7_9, kr7_10, kr7_11, kr7_12, kr7_13, kr7_14, kr7_15, kr7_16, kr16_1, kr16_2, kr19_1, kr19_2, kr22_1, kr22_2, kr25_6, kr25_7, kr25_8, kr25_9, kr25_10, kr25_11, kr25_12, kr25_13, kr25_14, kr25_15, kr25_16, kr34_1, kr34_2, kr37_1, kr37_2, kr40_1, kr40_2, kr43_2, kr43_3, kr44_0, kr44_1, kr44_4, kr46_0, kr48_0, kr50_0, kr52_0, kr54_0, kr56_0, kr60_3, kr60_4, kr63_0, kr63_1, kr63_2, kr66_0, kr66_1, kr66_2, kr66_3, kr66_4, kr67_0, kr70_0, kr70_1, kr70_2, kr72_1, kr72_2, kr72_3, kr72_4, kr72_5, kr72_6, kr72_7, kl2, kl3, kl4, kl5, kl6, kl8, kl9, kl10, kl11, kl12, kl13, kl14, kl15, kl17, kl18, kl20, kl21, kl23, kl24, kl26, kl27, kl28, kl29, kl30, kl31, kl32, kl33, kl35, kl36, kl38, kl39, kl41, kl42, kl45, kl47, kl49, kl51, kl53, kl55, kl57, kl58, kl59, kl61, kl62, kl64, kl65, kl68, kl69, kl71, kl73, kl74, kl75, kl76, hm1, kC_doorF hA h hx]
      · obtain ⟨lv, hm⟩ := h.1
        unfold f_X12_paired
        simp (disch := omega) only [↓reduceIte, kz_lt, Option.bind_some, kz_ix, kz_leT, kz_leF, kz_ltT, kz_ltF, kz_lt0, kz_0le, kz_0ltT, kz_le0F, kz_eq0F, kz_10, kz_00, kz_11, kz_01, nI_clamp, nI_1, nI_add, pk_mul, kc0, kc1, kc2, kc3, kc4, kc5, kc6, kc7, kc8, kc9, kc10, kx0, kx1, kx2, kx3, kx4, kx5, kx6, kx7, kx8, kr77_1, kr77_3, kr77_5, kr77_6, kr77_7, kr77_8, kr77_9, kr77_21, kr77_22, kr77_23, kr77_24, kr77_25, kr77_26, kr77_27, kr77_28, kr77_29, kr77_30, kr77_31, kr77_32, kr77_33, kr77_34, kr77_35, kr77_36, kr77_38, kr77_39, kr77_40, kr77_41, kr77_42, kr77_44, kr77_45, kr77_46, kr77_48, kr77_49, kr77_51, kr77_52, kr77_55, kr77_57, kr77_58, kr77_59, kr77_61, kr77_62, kr77_63, kr77_64, kr77_65, kl78, kl79, kl80, kl81, kl82, kl83, kl84, kl85, kl86, kl87, kl88, kl89, kl90, kl91, kl92, kl93, kl94, kl95, kl96, kl97, kl98, kl99, kl100, kl101, kl102, kl103, kl104, kl105, kl106, kl107, kl108, kl109, kl110, kl111, kl112, kl113, kl114, kl115, kl116, kl117, kl118, kl119, kl120, kl121, hm1, kM_doorF hA.1 hm hx]
