/-! ===== pure: the reference's lifted, polished ===== -/
theorem kp_unF_loop {T : kp_T} {lv : Nat} {σ : kf_St} (hT : kp_Tok T) (h : kp_MT T lv σ) {d : Nat} (hd : d < kt_nd T) : ∀ (m p : Nat), p + m = 4 → ∀ fuel, m < fuel → f_X12_unlikeFirst_4 fuel 77 (nI d) (l_sum (fun p => kp_of (σ.1 112 (4 * d + p)) (kt_fi T d p)) p) (nI p) σ = some (kp_un (fun p => σ.1 112 (4 * d + p)) (kt_fi T d), σ) := by
  have h6 := hT.1.1
  intro m
  induction m with
  | zero =>
    intro p hp fuel hf
    obtain ⟨n, rfl⟩ := kp_fuel (show 0 < fuel by omega)
    obtain rfl : p = 4 := by omega
    show f_X12_unlikeFirst_4_s _ 77 (nI d) _ (nI 4) σ = _
    unfold f_X12_unlikeFirst_4_s
    simp (disch := omega) only [↓reduceIte, kz_lt, Option.bind_some, kz_ix, kz_leT, kz_leF, kz_ltT, kz_ltF, kz_lt0, kz_0le, kz_0ltT, kz_le0F, kz_eq0F, kz_10, kz_00, kz_11, kz_01, nI_clamp, nI_1, nI_add, pk_mul, kn2, kn3, kn4, kn5, kn6, kn7, kn8, kn9, kn10, kn16, kn20, kn24, kn30, kn32, kn36, kn40, kn41, kn42, kn48, kn54, kn60, kn61, kn64, kn69, kn70, kn99, kn100, kc0, kc1, kc2, kc3, kc4, kc5, kc6, kc7, kc8, kc9, kc10, kx0, kx1, kx2, kx3, kx4, kx5, kx6, kx7, kx8, kr77_1, kr77_3, kr77_5, kr77_6, kr77_7, kr77_8, kr77_9, kr77_21, kr77_22, kr77_23, kr77_24, kr77_25, kr77_26, kr77_27, kr77_28, kr77_29, kr77_30, kr77_31, kr77_32, kr77_33, kr77_34, kr77_35, kr77_36, kr77_38, kr77_39, kr77_40, kr77_41, kr77_42, kr77_44, kr77_45, kr77_46, kr77_48, kr77_49, kr77_51, kr77_52, kr77_55, kr77_57, kr77_58, kr77_59, kr77_61, kr77_62, kr77_63, kr77_64, kr77_65, kl78, kl79, kl80, kl81, kl82, kl83, kl84, kl85, kl86, kl87, kl88, kl89, kl90, kl91, kl92, kl93, kl94, kl95, kl96, kl97, kl98, kl99, kl100, kl101, kl102, kl103, kl104, kl105, kl106, kl107, kl108, kl109, kl110, kl111, kl112, kl113, kl114, kl115, kl116, kl117, kl118, kl119, kl120, kl121]
    rfl
  | succ m ih =>
    intro p hp fuel hf
    obtain ⟨n, rfl⟩ := kp_fuel (show 0 < fuel by omega)
    show f_X12_unlikeFirst_4_s _ 77 (nI d) _ (nI p) σ = _
    unfold f_X12_unlikeFirst_4_s
    simp (disch := omega) only [↓reduceIte, kz_lt, Option.bind_some, kz_ix, kz_leT, kz_leF, kz_ltT, kz_ltF, kz_lt0, kz_0le, kz_0ltT, kz_le0F, kz_eq0F, kz_10, kz_00, kz_11, kz_01, nI_clamp, nI_1, nI_add, pk_mul, kn2, kn3, kn4, kn5, kn6, kn7, kn8, kn9, kn10, kn16, kn20, kn24, kn30, kn32, kn36, kn40, kn41, kn42, kn48, kn54, kn60, kn61, kn64, kn69, kn70, kn99, kn100, kc0, kc1, kc2, kc3, kc4, kc5, kc6, kc7, kc8, kc9, kc10, kx0, kx1, kx2, kx3, kx4, kx5, kx6, kx7, kx8, kr77_1, kr77_3, kr77_5, kr77_6, kr77_7, kr77_8, kr77_9, kr77_21, kr77_22, kr77_23, kr77_24, kr77_25, kr77_26, kr77_27, kr77_28, kr77_29, kr77_30, kr77_31, kr77_32, kr77_33, kr77_34, kr77_35, kr77_36, kr77_38, kr77_39, kr77_40, kr77_41, kr77_42, kr77_44, kr77_45, kr77_46, kr77_48, kr77_49, kr77_51, kr77_52, kr77_55, kr77_57, kr77_58, kr77_59, kr77_61, kr77_62, kr77_63, kr77_64, kr77_65, kl78, kl79, kl80, kl81, kl82, kl83, kl84, kl85, kl86, kl87, kl88, kl89, kl90, kl91, kl92, kl93, kl94, kl95, kl96, kl97, kl98, kl99, kl100, kl101, kl102, kl103, kl104, kl105, kl106, kl107, kl108, kl109, kl110, kl111, kl112, kl113, kl114, kl115, kl116, kl117, kl118, kl119, kl120, kl121, kp_firstPart hT h hd (show p < 4 by omega), kp_off]
    exact ih (p + 1) (by omega) n (by omega)
theorem kp_unF {T : kp_T} {lv : Nat} {σ : kf_St} (hT : kp_Tok T) (h : kp_MT T lv σ) {d : Nat} (hd : d < kt_nd T) : f_X12_unlikeFirst 77 (nI d) σ = some (kp_un (fun p => σ.1 112 (4 * d + p)) (kt_fi T d), σ) := by
  unfold f_X12_unlikeFirst
  exact kp_unF_loop hT h hd 4 0 rfl kf_F (kf_F_gt (by decide))
theorem kp_wearsOf {T : kp_T} {lv : Nat} {σ : kf_St} {d p : Nat} {D : kp_D} {dy : Int32} (hT : kp_Tok T) (h : kp_MT T lv σ) (hd : d < kt_nd T) (hp : p < 4) (e : kp_fD (σ.1 112) d = D) (ey : σ.1 112 69 = dy) (hs : ∀ q, q < 4 → kp_sm (D.1 q)) : ∃ σ', f_X12_wearsOf 77 (nI d) (nI p) σ = some (kp_st (kt_lw T) D (kt_fi T d) d p dy, σ') ∧ kp_chM (fun r => r = 109 ∨ r = 110) (fun j => j = 50) σ σ' := by
  have h6 := hT.1.1
  obtain ⟨f0, f1, f2, f3, -, -⟩ := kp_fD_f e
  have c1 := kp_lkM_ch σ d p
  have h1 := h.chM c1 (fun r e => by omega) (fun x => x)
  have e112 : (kp_lkM σ d p).1 112 = σ.1 112 := c1.1 112 (by decide) (by decide)
  have c2 : kp_chM (fun r => r = 109) (fun _ => False) σ (kf_wi (kp_lkM σ d p) 109 0 (kp_of (D.1 p) (kt_fi T d p))) := kp_chM.wi c1 rfl (by decide)
  have h2 := h.chM c2 (fun r e => by omega) (fun x => x)
  have eU : kp_un (fun q => (kf_wi (kp_lkM σ d p) 109 0 (kp_of (D.1 p) (kt_fi T d p))).1 112 (4 * d + q)) (kt_fi T d) = kp_un D.1 (kt_fi T d) := kp_un_congr (fun q hq => by rw [kp_wi_row (by decide), e112, f0 q hq]) (fun _ _ => rfl)
  have c3 : kp_chM (fun r => r = 109) (fun _ => False) σ (kf_wi (kf_wi (kf_wi (kp_lkM σ d p) 109 0 (kp_of (D.1 p) (kt_fi T d p))) 109 6 (kp_un D.1 (kt_fi T d))) 109 7 (nI d)) := kp_chM.wi (kp_chM.wi c2 rfl (by decide)) rfl (by decide)
  have h3 := h.chM c3 (fun r e => by omega) (fun x => x)
  obtain ⟨σ', g1, g2⟩ := h3.2.2.2.2.2.2.2.2.1 _ kp_ag.rf rfl
  have g1' : f_X12_lawTells 77 1 0 (kf_wi (kf_wi (kf_wi (kp_lkM σ d p) 109 0 (kp_of (D.1 p) (kt_fi T d p))) 109 6 (kp_un D.1 (kt_fi T d))) 109 7 (nI d)) = _ := g1
  unfold f_X12_wearsOf
  simp (disch := omega) only [↓reduceIte, kz_lt, Option.bind_some, kz_ix, kz_leT, kz_leF, kz_ltT, kz_ltF, kz_lt0, kz_0le, kz_0ltT, kz_le0F, kz_eq0F, kz_10, kz_00, kz_11, kz_01, nI_clamp, nI_1, nI_add, pk_mul, kn2, kn3, kn4, kn5, kn6, kn7, kn8, kn9, kn10, kn16, kn20, kn24, kn30, kn32, kn36, kn40, kn41, kn42, kn48, kn54, kn60, kn61, kn64, kn69, kn70, kn99, kn100, kc0, kc1, kc2, kc3, kc4, kc5, kc6, kc7, kc8, kc9, kc10, kx0, kx1, kx2, kx3, kx4, kx5, kx6, kx7, kx8, kr77_1, kr77_3, kr77_5, kr77_6, kr77_7, kr77_8, kr77_9, kr77_21, kr77_22, kr77_23, kr77_24, kr77_25, kr77_26, kr77_27, kr77_28, kr77_29, kr77_30, kr77_31, kr77_32, kr77_33, kr77_34, kr77_35, kr77_36, kr77_38, kr77_39, kr77_40, kr77_41, kr77_42, kr77_44, kr77_45, kr77_46, kr77_48, kr77_49, kr77_51, kr77_52, kr77_55, kr77_57, kr77_58, kr77_59, kr77_61, kr77_62, kr77_63, kr77_64, kr77_65, kl78, kl79, kl80, kl81, kl82, kl83, kl84, kl85, kl86, kl87, kl88, kl89, kl90, kl91, kl92, kl93, kl94, kl95, kl96, kl97, kl98, kl99, kl100, kl101, kl102, kl103, kl104, kl105, kl106, kl107, kl108, kl109, kl110, kl111, kl112, kl113, kl114, kl115, kl116, kl117, kl118, kl119, kl120, kl121, kp_looksM, kp_firstPart hT h1 hd hp, kp_off, e112, f0 p hp, kp_unF hT h2 hd, eU, g1', kp_withinM _ _ _ (kp_of0 (hs p hp) (hT.2.1 d hd p hp))]
  refine ⟨σ', ?_, (c3.mono (fun r h => Or.inl h) (fun j h => h.elim)).tr (g2.mono (fun r h => Or.inr h) (fun j h => h))⟩
  rw [hT.2.2.2.2.2.2.1 _ _ (kp_vaM σ d p (kp_of (D.1 p) (kt_fi T d p)) (kp_un D.1 (kt_fi T d)) (nI d)), f1, f2, f3, f0 p hp, ey]
  rfl
/-! lifted -/
def kp_lfS (T : kp_T) (S : kp_S) (d c : Nat) : kp_S := (fun x => if x = d then kp_lf T (S.1 d) c (nI S.2.2.2) else S.1 x, fun x => if x = c then S.2.1 c + 1 else S.2.1 x, S.2.2)
theorem kp_mnyM {m p : Int32} (hm : ∃ n, n ≤ 999999 ∧ m = nI n) (hp : ∃ n, n ≤ 99 ∧ p = nI n) : kp_wn (m + p) 0 999999 = kp_mny m p := by
  obtain ⟨a, ha, rfl⟩ := hm
  obtain ⟨b, hb, rfl⟩ := hp
  unfold kp_wn kp_mny
  rw [nI_add, if_neg (nI_pos (by omega))]
  by_cases h : a + b < 999999
  · rw [if_pos (show nI (a + b) < 999999 from nI_lt (b := 999999) h (by decide)), if_neg (show ¬ 999999 < nI (a + b) from nI_nlt (a := 999999) (by omega) (by decide))]
  · rw [if_neg (show ¬ nI (a + b) < 999999 from nI_nlt (b := 999999) (by omega) (by omega))]
    by_cases h2 : 999999 < nI (a + b)
    · rw [if_pos h2]
    · rw [if_neg h2]
      have : ¬ 999999 < a + b := fun e => h2 (nI_lt (a := 999999) e (by omega))
      rw [show a + b = 999999 by omega]
      rfl
theorem kp_lf40 {T : kp_T} {lv : Nat} {σ : kf_St} {d c : Nat} {S : kp_S} {x : Nat → Int32} (hT : kp_Tok T) (h : kp_MT T lv σ) (hd : d < 6) (hc : c < kt_nc T) (hS : kp_fS (σ.1 112) S) (hD : kp_Dok (S.1 d)) (ex : ∀ q, q < 4 → x q = kp_st (kt_lg T) (S.1 d) (kt_lo T c) c q (nI S.2.2.2)) : ∀ (m p : Nat), p + m = 4 → ∀ fuel, m < fuel → ∀ τ, kp_chM (fun r => r = 109 ∨ r = 110 ∨ r = 112 ∨ r = 113) (fun j => j = 50) σ τ → (∀ q, q < 4 → τ.1 113 q = x q) → (∀ j, j < 4 * d ∨ 4 * d + 4 ≤ j → τ.1 112 j = σ.1 112 j) → (∀ q, q < 4 → τ.1 112 (4 * d + q) = if q < p then kp_tw ((S.1 d).1 q) (kt_lo T c q) (x q) else (S.1 d).1 q) → ∃ τ', f_X12_lifted_40 fuel 77 (nI d) (nI c) (kp_py (kt_lp T) (S.1 d) (kt_lo T c) c (nI S.2.2.2)) (nI p) τ = some τ' ∧ kp_chM (fun r => r = 109 ∨ r = 110 ∨ r = 112 ∨ r = 113) (fun j => j = 50) σ τ' ∧ kp_fS (τ'.1 112) (kp_lfS T S d c) := by
  have h5 := hT.1.2.1
  obtain ⟨s1, s2, s3, s4⟩ := hS
  obtain ⟨f0, f1, f2, f3, f4, f5⟩ := kp_fD_f (s1 d hd)
  intro m
  induction m with
  | zero =>
    intro p hp fuel hf τ h1 h2 h3 h4
    obtain ⟨n, rfl⟩ := kp_fuel (show 0 < fuel by omega)
    obtain rfl : p = 4 := by omega
    show ∃ τ', f_X12_lifted_40_s _ 77 (nI d) (nI c) _ (nI 4) τ = some τ' ∧ _
    unfold f_X12_lifted_40_s
    simp (disch := omega) only [↓reduceIte, kz_lt, Option.bind_some, kz_ix, kz_leT, kz_leF, kz_ltT, kz_ltF, kz_lt0, kz_0le, kz_0ltT, kz_le0F, kz_eq0F, kz_10, kz_00, kz_11, kz_01, nI_clamp, nI_1, nI_add, pk_mul, kn2, kn3, kn4, kn5, kn6, kn7, kn8, kn9, kn10, kn16, kn20, kn24, kn30, kn32, kn36, kn40, kn41, kn42, kn48, kn54, kn60, kn61, kn64, kn69, kn70, kn99, kn100, kc0, kc1, kc2, kc3, kc4, kc5, kc6, kc7, kc8, kc9, kc10, kx0, kx1, kx2, kx3, kx4, kx5, kx6, kx7, kx8, kr77_1, kr77_3, kr77_5, kr77_6, kr77_7, kr77_8, kr77_9, kr77_21, kr77_22, kr77_23, kr77_24, kr77_25, kr77_26, kr77_27, kr77_28, kr77_29, kr77_30, kr77_31, kr77_32, kr77_33, kr77_34, kr77_35, kr77_36, kr77_38, kr77_39, kr77_40, kr77_41, kr77_42, kr77_44, kr77_45, kr77_46, kr77_48, kr77_49, kr77_51, kr77_52, kr77_55, kr77_57, kr77_58, kr77_59, kr77_61, kr77_62, kr77_63, kr77_64, kr77_65, kl78, kl79, kl80, kl81, kl82, kl83, kl84, kl85, kl86, kl87, kl88, kl89, kl90, kl91, kl92, kl93, kl94, kl95, kl96, kl97, kl98, kl99, kl100, kl101, kl102, kl103, kl104, kl105, kl106, kl107, kl108, kl109, kl110, kl111, kl112, kl113, kl114, kl115, kl116, kl117, kl118, kl119, kl120, kl121, kp_withinM _ _ _ (show (0 : Int32) ≤ 999999 by decide), h3 (42 + d) (by omega), h3 (24 + d) (by omega), h3 (64 + c) (by omega), f4, kp_mnyM hD.2.2.1 (kp_py_n _ _ _ _ _), kz_col]
    have c2 : ∀ a b e f : Int32, kp_chM (fun r => r = 109 ∨ r = 110 ∨ r = 112 ∨ r = 113) (fun j => j = 50) σ (kf_wi (kf_wi (kf_wi (kf_wi τ 112 (42 + d) a) 112 (24 + d) b) 112 (64 + c) e) 112 (48 + d) f) := fun a b e f => kp_chM.wi (kp_chM.wi (kp_chM.wi (kp_chM.wi h1 (by omega) (by decide)) (by omega) (by decide)) (by omega) (by decide)) (by omega) (by decide)
    refine ⟨_, rfl, c2 _ _ _ _, ?_, ?_, ?_, ?_⟩
    · intro a ha
      by_cases e : a = d
      · subst e
        show _ = if a = a then _ else _
        rw [if_pos rfl]
        have ef : kd_cut (fun q => kp_tw ((S.1 a).1 q) (kt_lo T c q) (x q)) = kd_cut (fun q => kp_tw ((S.1 a).1 q) (kt_lo T c q) (kp_st (kt_lg T) (S.1 a) (kt_lo T c) c q (nI S.2.2.2))) := kd_cut_eq (fun q hq => by rw [ex q hq])
        refine (kp_fD_mk (f := fun q => kp_tw ((S.1 a).1 q) (kt_lo T c q) (x q)) (a := (S.1 a).2.1 + 1) (b := (S.1 a).2.2.1) (c := (S.1 a).2.2.2.1) (m := kp_mny (S.1 a).2.2.2.2.1 (kp_py (kt_lp T) (S.1 a) (kt_lo T c) c (nI S.2.2.2))) (e := 1) (fun q hq => ?_) ?_ ?_ ?_ ?_ ?_).trans (by rw [ef]; rfl)
        · simp (disch := omega) only [↓reduceIte, kz_lt, Option.bind_some, kz_ix, kz_leT, kz_leF, kz_ltT, kz_ltF, kz_lt0, kz_0le, kz_0ltT, kz_le0F, kz_eq0F, kz_10, kz_00, kz_11, kz_01, nI_clamp, nI_1, nI_add, pk_mul, kz_col, h4, if_pos hq]
        · simp (disch := omega) only [↓reduceIte, kz_lt, Option.bind_some, kz_ix, kz_leT, kz_leF, kz_ltT, kz_ltF, kz_lt0, kz_0le, kz_0ltT, kz_le0F, kz_eq0F, kz_10, kz_00, kz_11, kz_01, nI_clamp, nI_1, nI_add, pk_mul, kz_col, kz_same', f1]
        · simp (disch := omega) only [↓reduceIte, kz_lt, Option.bind_some, kz_ix, kz_leT, kz_leF, kz_ltT, kz_ltF, kz_lt0, kz_0le, kz_0ltT, kz_le0F, kz_eq0F, kz_10, kz_00, kz_11, kz_01, nI_clamp, nI_1, nI_add, pk_mul, kz_col, h3 (30 + a) (by omega), f2]
        · simp (disch := omega) only [↓reduceIte, kz_lt, Option.bind_some, kz_ix, kz_leT, kz_leF, kz_ltT, kz_ltF, kz_lt0, kz_0le, kz_0ltT, kz_le0F, kz_eq0F, kz_10, kz_00, kz_11, kz_01, nI_clamp, nI_1, nI_add, pk_mul, kz_col, h3 (36 + a) (by omega), f3]
        · simp (disch := omega) only [↓reduceIte, kz_lt, Option.bind_some, kz_ix, kz_leT, kz_leF, kz_ltT, kz_ltF, kz_lt0, kz_0le, kz_0ltT, kz_le0F, kz_eq0F, kz_10, kz_00, kz_11, kz_01, nI_clamp, nI_1, nI_add, pk_mul, kz_col, kz_same']
        · simp (disch := omega) only [↓reduceIte, kz_lt, Option.bind_some, kz_ix, kz_leT, kz_leF, kz_ltT, kz_ltF, kz_lt0, kz_0le, kz_0ltT, kz_le0F, kz_eq0F, kz_10, kz_00, kz_11, kz_01, nI_clamp, nI_1, nI_add, pk_mul, kz_same']
      · show _ = if a = d then _ else _
        rw [if_neg e, ← s1 a ha]
        refine kp_fD_eq (fun q hq => ?_) ?_ ?_ ?_ ?_ ?_ <;> simp (disch := omega) only [↓reduceIte, kz_lt, Option.bind_some, kz_ix, kz_leT, kz_leF, kz_ltT, kz_ltF, kz_lt0, kz_0le, kz_0ltT, kz_le0F, kz_eq0F, kz_10, kz_00, kz_11, kz_01, nI_clamp, nI_1, nI_add, pk_mul, kz_col, h3]
    · intro a ha
      show _ = if a = c then _ else _
      by_cases e : a = c
      · rw [if_pos e, e]
        simp (disch := omega) only [↓reduceIte, kz_lt, Option.bind_some, kz_ix, kz_leT, kz_leF, kz_ltT, kz_ltF, kz_lt0, kz_0le, kz_0ltT, kz_le0F, kz_eq0F, kz_10, kz_00, kz_11, kz_01, nI_clamp, nI_1, nI_add, pk_mul, kz_col, kz_same', s2]
      · rw [if_neg e]
        simp (disch := omega) only [↓reduceIte, kz_lt, Option.bind_some, kz_ix, kz_leT, kz_leF, kz_ltT, kz_ltF, kz_lt0, kz_0le, kz_0ltT, kz_le0F, kz_eq0F, kz_10, kz_00, kz_11, kz_01, nI_clamp, nI_1, nI_add, pk_mul, kz_col, h3, s2]
    · intro r hr
      simp (disch := omega) only [↓reduceIte, kz_lt, Option.bind_some, kz_ix, kz_leT, kz_leF, kz_ltT, kz_ltF, kz_lt0, kz_0le, kz_0ltT, kz_le0F, kz_eq0F, kz_10, kz_00, kz_11, kz_01, nI_clamp, nI_1, nI_add, pk_mul, kz_col, h3]
      exact s3 r hr
    · simp (disch := omega) only [↓reduceIte, kz_lt, Option.bind_some, kz_ix, kz_leT, kz_leF, kz_ltT, kz_ltF, kz_lt0, kz_0le, kz_0ltT, kz_le0F, kz_eq0F, kz_10, kz_00, kz_11, kz_01, nI_clamp, nI_1, nI_add, pk_mul, kz_col, h3]
      exact s4
  | succ m ih =>
    intro p hp fuel hf τ h1 h2 h3 h4
    obtain ⟨n, rfl⟩ := kp_fuel (show 0 < fuel by omega)
    show ∃ τ', f_X12_lifted_40_s _ 77 (nI d) (nI c) _ (nI p) τ = some τ' ∧ _
    unfold f_X12_lifted_40_s
    simp (disch := omega) only [↓reduceIte, kz_lt, Option.bind_some, kz_ix, kz_leT, kz_leF, kz_ltT, kz_ltF, kz_lt0, kz_0le, kz_0ltT, kz_le0F, kz_eq0F, kz_10, kz_00, kz_11, kz_01, nI_clamp, nI_1, nI_add, pk_mul, kn2, kn3, kn4, kn5, kn6, kn7, kn8, kn9, kn10, kn16, kn20, kn24, kn30, kn32, kn36, kn40, kn41, kn42, kn48, kn54, kn60, kn61, kn64, kn69, kn70, kn99, kn100, kc0, kc1, kc2, kc3, kc4, kc5, kc6, kc7, kc8, kc9, kc10, kx0, kx1, kx2, kx3, kx4, kx5, kx6, kx7, kx8, kr77_1, kr77_3, kr77_5, kr77_6, kr77_7, kr77_8, kr77_9, kr77_21, kr77_22, kr77_23, kr77_24, kr77_25, kr77_26, kr77_27, kr77_28, kr77_29, kr77_30, kr77_31, kr77_32, kr77_33, kr77_34, kr77_35, kr77_36, kr77_38, kr77_39, kr77_40, kr77_41, kr77_42, kr77_44, kr77_45, kr77_46, kr77_48, kr77_49, kr77_51, kr77_52, kr77_55, kr77_57, kr77_58, kr77_59, kr77_61, kr77_62, kr77_63, kr77_64, kr77_65, kl78, kl79, kl80, kl81, kl82, kl83, kl84, kl85, kl86, kl87, kl88, kl89, kl90, kl91, kl92, kl93, kl94, kl95, kl96, kl97, kl98, kl99, kl100, kl101, kl102, kl103, kl104, kl105, kl106, kl107, kl108, kl109, kl110, kl111, kl112, kl113, kl114, kl115, kl116, kl117, kl118, kl119, kl120, kl121, kp_facePart hT (h.chM h1 (fun r e => by omega) (by omega)) hc (show p < 4 by omega), kp_towM, h2 p (by omega), h4 p (by omega), if_neg (Nat.lt_irrefl p)]
    refine ih (p + 1) (by omega) n (by omega) _ (kp_chM.wi h1 (by omega) (by decide)) (fun q hq => by rw [kp_wi_row (by decide)]; exact h2 q hq) (fun j hj => by rw [kp_wi_col (by omega)]; exact h3 j hj) (fun q hq => ?_)
    by_cases e : q = p
    · rw [e, kp_wi_same, if_pos (by omega)]
    · rw [kp_wi_col (by omega), h4 q hq]
      by_cases e2 : q < p
      · rw [if_pos e2, if_pos (by omega)]
      · rw [if_neg e2, if_neg (by omega)]
theorem kp_lf10 {T : kp_T} {lv : Nat} {σ : kf_St} {d c : Nat} {S : kp_S} (hT : kp_Tok T) (h : kp_MT T lv σ) (hd : d < 6) (hc : c < kt_nc T) (hS : kp_fS (σ.1 112) S) (hD : kp_Dok (S.1 d)) : ∀ (m p : Nat), p + m = 4 → ∀ fuel, m < fuel → ∀ τ, kp_chM (fun r => r = 109 ∨ r = 110 ∨ r = 113) (fun j => j = 50) σ τ → (∀ q, q < p → τ.1 113 q = kp_st (kt_lg T) (S.1 d) (kt_lo T c) c q (nI S.2.2.2)) → ∃ τ', f_X12_lifted_10 fuel 77 (nI d) (nI c) (kp_py (kt_lp T) (S.1 d) (kt_lo T c) c (nI S.2.2.2)) (nI p) τ = some τ' ∧ kp_chM (fun r => r = 109 ∨ r = 110 ∨ r = 112 ∨ r = 113) (fun j => j = 50) σ τ' ∧ kp_fS (τ'.1 112) (kp_lfS T S d c) := by
  intro m
  induction m with
  | zero =>
    intro p hp fuel hf τ h1 h2
    obtain ⟨n, rfl⟩ := kp_fuel (show 0 < fuel by omega)
    obtain rfl : p = 4 := by omega
    show ∃ τ', f_X12_lifted_10_s _ 77 (nI d) (nI c) _ (nI 4) τ = some τ' ∧ _
    unfold f_X12_lifted_10_s
    simp (disch := omega) only [↓reduceIte, kz_lt, Option.bind_some, kz_ix, kz_leT, kz_leF, kz_ltT, kz_ltF, kz_lt0, kz_0le, kz_0ltT, kz_le0F, kz_eq0F, kz_10, kz_00, kz_11, kz_01, nI_clamp, nI_1, nI_add, pk_mul, kn2, kn3, kn4, kn5, kn6, kn7, kn8, kn9, kn10, kn16, kn20, kn24, kn30, kn32, kn36, kn40, kn41, kn42, kn48, kn54, kn60, kn61, kn64, kn69, kn70, kn99, kn100, kc0, kc1, kc2, kc3, kc4, kc5, kc6, kc7, kc8, kc9, kc10, kx0, kx1, kx2, kx3, kx4, kx5, kx6, kx7, kx8, kr77_1, kr77_3, kr77_5, kr77_6, kr77_7, kr77_8, kr77_9, kr77_21, kr77_22, kr77_23, kr77_24, kr77_25, kr77_26, kr77_27, kr77_28, kr77_29, kr77_30, kr77_31, kr77_32, kr77_33, kr77_34, kr77_35, kr77_36, kr77_38, kr77_39, kr77_40, kr77_41, kr77_42, kr77_44, kr77_45, kr77_46, kr77_48, kr77_49, kr77_51, kr77_52, kr77_55, kr77_57, kr77_58, kr77_59, kr77_61, kr77_62, kr77_63, kr77_64, kr77_65, kl78, kl79, kl80, kl81, kl82, kl83, kl84, kl85, kl86, kl87, kl88, kl89, kl90, kl91, kl92, kl93, kl94, kl95, kl96, kl97, kl98, kl99, kl100, kl101, kl102, kl103, kl104, kl105, kl106, kl107, kl108, kl109, kl110, kl111, kl112, kl113, kl114, kl115, kl116, kl117, kl118, kl119, kl120, kl121]
    have e112 : τ.1 112 = σ.1 112 := h1.1 112 (by decide) (by decide)
    exact kp_lf40 (x := fun q => kp_st (kt_lg T) (S.1 d) (kt_lo T c) c q (nI S.2.2.2)) hT h hd hc hS hD (fun _ _ => rfl) 4 0 rfl kf_F (kf_F_gt (by decide)) τ (h1.mono (fun r h => by omega) (fun j h => h)) h2 (fun j _ => by rw [e112]) (fun q hq => by rw [e112, if_neg (Nat.not_lt_zero q)]; exact (kp_fD_f (hS.1 d hd)).1 q hq)
  | succ m ih =>
    intro p hp fuel hf τ h1 h2
    obtain ⟨n, rfl⟩ := kp_fuel (show 0 < fuel by omega)
    show ∃ τ', f_X12_lifted_10_s _ 77 (nI d) (nI c) _ (nI p) τ = some τ' ∧ _
    have e112 : τ.1 112 = σ.1 112 := h1.1 112 (by decide) (by decide)
    obtain ⟨τ1, a1, a2⟩ := kp_givesOf (D := S.1 d) (dy := nI S.2.2.2) hT (h.chM h1 (fun r e => by omega) (by omega)) hd hc (show p < 4 by omega) (by rw [e112]; exact hS.1 d hd) (by rw [e112]; exact hS.2.2.2) hD.1
    unfold f_X12_lifted_10_s
    simp (disch := omega) only [↓reduceIte, kz_lt, Option.bind_some, kz_ix, kz_leT, kz_leF, kz_ltT, kz_ltF, kz_lt0, kz_0le, kz_0ltT, kz_le0F, kz_eq0F, kz_10, kz_00, kz_11, kz_01, nI_clamp, nI_1, nI_add, pk_mul, kn2, kn3, kn4, kn5, kn6, kn7, kn8, kn9, kn10, kn16, kn20, kn24, kn30, kn32, kn36, kn40, kn41, kn42, kn48, kn54, kn60, kn61, kn64, kn69, kn70, kn99, kn100, kc0, kc1, kc2, kc3, kc4, kc5, kc6, kc7, kc8, kc9, kc10, kx0, kx1, kx2, kx3, kx4, kx5, kx6, kx7, kx8, kr77_1, kr77_3, kr77_5, kr77_6, kr77_7, kr77_8, kr77_9, kr77_21, kr77_22, kr77_23, kr77_24, kr77_25, kr77_26, kr77_27, kr77_28, kr77_29, kr77_30, kr77_31, kr77_32, kr77_33, kr77_34, kr77_35, kr77_36, kr77_38, kr77_39, kr77_40, kr77_41, kr77_42, kr77_44, kr77_45, kr77_46, kr77_48, kr77_49, kr77_51, kr77_52, kr77_55, kr77_57, kr77_58, kr77_59, kr77_61, kr77_62, kr77_63, kr77_64, kr77_65, kl78, kl79, kl80, kl81, kl82, kl83, kl84, kl85, kl86, kl87, kl88, kl89, kl90, kl91, kl92, kl93, kl94, kl95, kl96, kl97, kl98, kl99, kl100, kl101, kl102, kl103, kl104, kl105, kl106, kl107, kl108, kl109, kl110, kl111, kl112, kl113, kl114, kl115, kl116, kl117, kl118, kl119, kl120, kl121, a1]
    refine ih (p + 1) (by omega) n (by omega) _ (kp_chM.wi (h1.tr (a2.mono (fun r h => by omega) (fun j h => h))) (by omega) (by decide)) (fun q hq => ?_)
    by_cases e : q = p
    · rw [e, kp_wi_same]
    · rw [kp_wi_col e, a2.1 113 (by omega) (by decide)]; exact h2 q (by omega)
theorem kp_lifted {T : kp_T} {lv : Nat} {σ : kf_St} {d c : Nat} {S : kp_S} (hT : kp_Tok T) (h : kp_MT T lv σ) (hd : d < 6) (hc : c < kt_nc T) (hS : kp_fS (σ.1 112) S) (hD : kp_Dok (S.1 d)) : ∃ σ', f_X12_lifted 77 (nI d) (nI c) σ = some σ' ∧ kp_chM (fun r => r = 109 ∨ r = 110 ∨ r = 112 ∨ r = 113) (fun j => j = 50) σ σ' ∧ kp_fS (σ'.1 112) (kp_lfS T S d c) := by
  obtain ⟨σ1, a1, a2⟩ := kp_paysOf (D := S.1 d) (dy := nI S.2.2.2) hT h hd hc (hS.1 d hd) hS.2.2.2
  unfold f_X12_lifted
  rw [a1, Option.bind_some]
  exact kp_lf10 hT h hd hc hS hD 4 0 rfl kf_F (kf_F_gt (by decide)) σ1 (a2.mono (fun r h => by omega) (fun j h => h)) (fun q hq => absurd hq (Nat.not_lt_zero q))
