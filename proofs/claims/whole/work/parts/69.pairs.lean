/-! ===== pure: the closest two ===== -/
def kp_c0 (u : Nat → Nat → Int32) (l o : Nat) (s : Int32 × Int32) : Int32 × Int32 := if s.1 < 0 then (nI (10 * l + o), u l o) else if s.2 ≤ u l o then s else (nI (10 * l + o), u l o)
def kp_c1 (u : Nat → Nat → Int32) (l : Nat) (s : Int32 × Int32) : Nat → Int32 × Int32
  | 0 => s
  | j + 1 => kp_c0 u l (l + 1 + j) (kp_c1 u l s j)
def kp_c2 (u : Nat → Nat → Int32) (n : Nat) : Nat → Int32 × Int32
  | 0 => (-2, -2)
  | l + 1 => kp_c1 u l (kp_c2 u n l) (n - (l + 1))
theorem kp_c1_s (u : Nat → Nat → Int32) (l : Nat) (s : Int32 × Int32) (j : Nat) : kp_c1 u l s (j + 1) = kp_c0 u l (l + 1 + j) (kp_c1 u l s j) := rfl
theorem kp_c2_s (u : Nat → Nat → Int32) (n l : Nat) : kp_c2 u n (l + 1) = kp_c1 u l (kp_c2 u n l) (n - (l + 1)) := rfl
theorem kC_c22 {σ : kf_St} {a n : Nat} {w : Int32} {u : Nat → Nat → Int32} (hn : n ≤ 6) (hu : ∀ l o, l < n → o < n → f_X10_difference a (nI l) a (nI o) σ = some (u l o, σ)) {l : Nat} (hl : l < n) (s : Int32 × Int32) (rec : Nat → Int32 → Int32 → Int32 → Int32 → Int32 → kf_St → Option (Int32 × kf_St)) : f_X11_closestTwo_22 rec kf_F a (nI n) w s.1 s.2 (nI l) (nI (l + 1)) σ = rec a (nI n) w (kp_c1 u l s (n - (l + 1))).1 (kp_c1 u l s (n - (l + 1))).2 (nI (l + 1)) σ := by
  refine kp_run (n := n - (l + 1)) (fun j f => f_X11_closestTwo_22 rec f a (nI n) w (kp_c1 u l s j).1 (kp_c1 u l s j).2 (nI l) (nI (l + 1 + j)) σ = rec a (nI n) w (kp_c1 u l s (n - (l + 1))).1 (kp_c1 u l s (n - (l + 1))).2 (nI (l + 1)) σ) (by omega) (fun f => ?_) (fun j hj f ih => ?_)
  · show f_X11_closestTwo_22_s _ _ a (nI n) w _ _ (nI l) (nI (l + 1 + (n - (l + 1)))) σ = _
    unfold f_X11_closestTwo_22_s
    simp (disch := omega) only [↓reduceIte, kz_lt, Option.bind_some, kz_ix, kz_leT, kz_leF, kz_ltT, kz_ltF, kz_lt0, kz_0le, kz_0ltT, kz_le0F, kz_eq0F, kz_10, kz_00, kz_11, kz_01, nI_clamp, nI_1, nI_add, pk_mul]
  · show f_X11_closestTwo_22_s _ _ a (nI n) w _ _ (nI l) (nI (l + 1 + j)) σ = _
    unfold f_X11_closestTwo_22_s f_X11_closestTwo_50 f_X11_closestTwo_63
    simp (disch := omega) only [↓reduceIte, kz_lt, Option.bind_some, kz_ix, kz_leT, kz_leF, kz_ltT, kz_ltF, kz_lt0, kz_0le, kz_0ltT, kz_le0F, kz_eq0F, kz_10, kz_00, kz_11, kz_01, nI_clamp, nI_1, nI_add, pk_mul, hu l (l + 1 + j) hl (by omega), kn10]
    rw [kp_c1_s] at ih
    unfold kp_c0 at ih
    by_cases h1 : (kp_c1 u l s j).1 < 0
    · rw [if_pos h1] at ih ⊢; exact ih
    · rw [if_neg h1] at ih ⊢
      by_cases h2 : (kp_c1 u l s j).2 ≤ u l (l + 1 + j)
      · rw [if_pos h2] at ih ⊢; exact ih
      · rw [if_neg h2] at ih ⊢; exact ih
theorem kC_c2 {σ : kf_St} {a n : Nat} {w : Int32} {u : Nat → Nat → Int32} (hn : n ≤ 6) (hu : ∀ l o, l < n → o < n → f_X10_difference a (nI l) a (nI o) σ = some (u l o, σ)) : f_X11_closestTwo a (nI n) w σ = some (kp_p2 w (kp_c2 u n n), σ) := by
  unfold f_X11_closestTwo
  refine kp_run (n := n) (fun l f => f_X11_closestTwo_10 f a (nI n) w (kp_c2 u n l).1 (kp_c2 u n l).2 (nI l) σ = some (kp_p2 w (kp_c2 u n n), σ)) (by omega) (fun f => ?_) (fun l hl f ih => ?_)
  · show f_X11_closestTwo_10_s _ a (nI n) w _ _ (nI n) σ = _
    unfold f_X11_closestTwo_10_s kp_p2
    simp (disch := omega) only [↓reduceIte, kz_lt, Option.bind_some, kz_ix, kz_leT, kz_leF, kz_ltT, kz_ltF, kz_lt0, kz_0le, kz_0ltT, kz_le0F, kz_eq0F, kz_10, kz_00, kz_11, kz_01, nI_clamp, nI_1, nI_add, pk_mul]
    by_cases hw : w = 0
    · rw [if_pos hw, if_pos hw]
    · rw [if_neg hw, if_neg hw]
  · show f_X11_closestTwo_10_s _ a (nI n) w _ _ (nI l) σ = _
    unfold f_X11_closestTwo_10_s
    simp (disch := omega) only [↓reduceIte, kz_lt, Option.bind_some, kz_ix, kz_leT, kz_leF, kz_ltT, kz_ltF, kz_lt0, kz_0le, kz_0ltT, kz_le0F, kz_eq0F, kz_10, kz_00, kz_11, kz_01, nI_clamp, nI_1, nI_add, pk_mul]
    rw [kC_c22 hn hu hl]
    rw [kp_c2_s] at ih
    exact ih
theorem kM_twins40 {T : kp_T} {lv : Nat} {σ : kf_St} {w : Int32} {u : Nat → Nat → Int32} (hT : kp_Tok T) (h : kp_MT T lv σ) (hu : ∀ l o, l < kt_nd T → o < kt_nd T → f_X12_doorsApart 77 (nI l) (nI o) σ = some (u l o, σ)) {l : Nat} (hl : l < kt_nd T) (s : Int32 × Int32) (rec : Nat → Int32 → Int32 → Int32 → Int32 → kf_St → Option (Int32 × kf_St)) : f_X12_twins_40 rec kf_F 77 w s.1 s.2 (nI l) (nI (l + 1)) σ = rec 77 w (kp_c1 u l s (kt_nd T - (l + 1))).1 (kp_c1 u l s (kt_nd T - (l + 1))).2 (nI (l + 1)) σ := by
  have hv := h.1
  have h6 := hT.1.1
  have h5 := hT.1.2.1
  refine kp_run (n := kt_nd T - (l + 1)) (fun j f => f_X12_twins_40 rec f 77 w (kp_c1 u l s j).1 (kp_c1 u l s j).2 (nI l) (nI (l + 1 + j)) σ = rec 77 w (kp_c1 u l s (kt_nd T - (l + 1))).1 (kp_c1 u l s (kt_nd T - (l + 1))).2 (nI (l + 1)) σ) (by omega) (fun f => ?_) (fun j hj f ih => ?_)
  · show f_X12_twins_40_s _ _ 77 w _ _ (nI l) (nI (l + 1 + (kt_nd T - (l + 1)))) σ = _
    unfold f_X12_twins_40_s
    simp (disch := omega) only [↓reduceIte, kz_lt, Option.bind_some, kz_ix, kz_leT, kz_leF, kz_ltT, kz_ltF, kz_lt0, kz_0le, kz_0ltT, kz_le0F, kz_eq0F, kz_10, kz_00, kz_11, kz_01, nI_clamp, nI_1, nI_add, pk_mul, kc0, kc1, kc2, kc3, kc4, kc5, kc6, kc7, kc8, kc9, kc10, kx0, kx1, kx2, kx3, kx4, kx5, kx6, kx7, kx8, kr77_1, kr77_3, kr77_5, kr77_6, kr77_7, kr77_8, kr77_9, kr77_21, kr77_22, kr77_23, kr77_24, kr77_25, kr77_26, kr77_27, kr77_28, kr77_29, kr77_30, kr77_31, kr77_32, kr77_33, kr77_34, kr77_35, kr77_36, kr77_38, kr77_39, kr77_40, kr77_41, kr77_42, kr77_44, kr77_45, kr77_46, kr77_48, kr77_49, kr77_51, kr77_52, kr77_55, kr77_57, kr77_58, kr77_59, kr77_61, kr77_62, kr77_63, kr77_64, kr77_65, kl78, kl79, kl80, kl81, kl82, kl83, kl84, kl85, kl86, kl87, kl88, kl89, kl90, kl91, kl92, kl93, kl94, kl95, kl96, kl97, kl98, kl99, kl100, kl101, kl102, kl103, kl104, kl105, kl106, kl107, kl108, kl109, kl110, kl111, kl112, kl113, kl114, kl115, kl116, kl117, kl118, kl119, kl120, kl121, h.2.1, h.2.2.1.1]
  · show f_X12_twins_40_s _ _ 77 w _ _ (nI l) (nI (l + 1 + j)) σ = _
    unfold f_X12_twins_40_s f_X12_twins_73 f_X12_twins_91
    simp (disch := omega) only [↓reduceIte, kz_lt, Option.bind_some, kz_ix, kz_leT, kz_leF, kz_ltT, kz_ltF, kz_lt0, kz_0le, kz_0ltT, kz_le0F, kz_eq0F, kz_10, kz_00, kz_11, kz_01, nI_clamp, nI_1, nI_add, pk_mul, kc0, kc1, kc2, kc3, kc4, kc5, kc6, kc7, kc8, kc9, kc10, kx0, kx1, kx2, kx3, kx4, kx5, kx6, kx7, kx8, kr77_1, kr77_3, kr77_5, kr77_6, kr77_7, kr77_8, kr77_9, kr77_21, kr77_22, kr77_23, kr77_24, kr77_25, kr77_26, kr77_27, kr77_28, kr77_29, kr77_30, kr77_31, kr77_32, kr77_33, kr77_34, kr77_35, kr77_36, kr77_38, kr77_39, kr77_40, kr77_41, kr77_42, kr77_44, kr77_45, kr77_46, kr77_48, kr77_49, kr77_51, kr77_52, kr77_55, kr77_57, kr77_58, kr77_59, kr77_61, kr77_62, kr77_63, kr77_64, kr77_65, kl78, kl79, kl80, kl81, kl82, kl83, kl84, kl85, kl86, kl87, kl88, kl89, kl90, kl91, kl92, kl93, kl94, kl95, kl96, kl97, kl98, kl99, kl100, kl101, kl102, kl103, kl104, kl105, kl106, kl107, kl108, kl109, kl110, kl111, kl112, kl113, kl114, kl115, kl116, kl117, kl118, kl119, kl120, kl121, h.2.1, h.2.2.1.1, hu l (l + 1 + j) hl (by omega), kn10]
    rw [kp_c1_s] at ih
    unfold kp_c0 at ih
    by_cases h1 : (kp_c1 u l s j).1 < 0
    · rw [if_pos h1] at ih ⊢; exact ih
    · rw [if_neg h1] at ih ⊢
      by_cases h2 : (kp_c1 u l s j).2 ≤ u l (l + 1 + j)
      · rw [if_pos h2] at ih
        rw [if_neg (fun e => absurd h2 (Int32.not_le.mpr e))]; exact ih
      · rw [if_neg h2] at ih
        rw [if_pos (Int32.not_le.mp h2)]; exact ih
theorem kM_twins20 {T : kp_T} {lv : Nat} {σ : kf_St} {w : Int32} {u : Nat → Nat → Int32} (hT : kp_Tok T) (h : kp_MT T lv σ) (hu : ∀ l o, l < kt_nd T → o < kt_nd T → f_X12_doorsApart 77 (nI l) (nI o) σ = some (u l o, σ)) : f_X12_twins_20 kf_F 77 w (-2) (-2) 0 σ = some (kp_p2 w (kp_c2 u (kt_nd T) (kt_nd T)), σ) := by
  have hv := h.1
  have h6 := hT.1.1
  have h5 := hT.1.2.1
  refine kp_run (n := kt_nd T) (fun l f => f_X12_twins_20 f 77 w (kp_c2 u (kt_nd T) l).1 (kp_c2 u (kt_nd T) l).2 (nI l) σ = some (kp_p2 w (kp_c2 u (kt_nd T) (kt_nd T)), σ)) (by omega) (fun f => ?_) (fun l hl f ih => ?_)
  · show f_X12_twins_20_s _ 77 w _ _ (nI (kt_nd T)) σ = _
    unfold f_X12_twins_20_s kp_p2
    simp (disch := omega) only [↓reduceIte, kz_lt, Option.bind_some, kz_ix, kz_leT, kz_leF, kz_ltT, kz_ltF, kz_lt0, kz_0le, kz_0ltT, kz_le0F, kz_eq0F, kz_10, kz_00, kz_11, kz_01, nI_clamp, nI_1, nI_add, pk_mul, kc0, kc1, kc2, kc3, kc4, kc5, kc6, kc7, kc8, kc9, kc10, kx0, kx1, kx2, kx3, kx4, kx5, kx6, kx7, kx8, kr77_1, kr77_3, kr77_5, kr77_6, kr77_7, kr77_8, kr77_9, kr77_21, kr77_22, kr77_23, kr77_24, kr77_25, kr77_26, kr77_27, kr77_28, kr77_29, kr77_30, kr77_31, kr77_32, kr77_33, kr77_34, kr77_35, kr77_36, kr77_38, kr77_39, kr77_40, kr77_41, kr77_42, kr77_44, kr77_45, kr77_46, kr77_48, kr77_49, kr77_51, kr77_52, kr77_55, kr77_57, kr77_58, kr77_59, kr77_61, kr77_62, kr77_63, kr77_64, kr77_65, kl78, kl79, kl80, kl81, kl82, kl83, kl84, kl85, kl86, kl87, kl88, kl89, kl90, kl91, kl92, kl93, kl94, kl95, kl96, kl97, kl98, kl99, kl100, kl101, kl102, kl103, kl104, kl105, kl106, kl107, kl108, kl109, kl110, kl111, kl112, kl113, kl114, kl115, kl116, kl117, kl118, kl119, kl120, kl121, h.2.1, h.2.2.1.1]
    by_cases hw : w = 0
    · rw [if_pos hw, if_pos hw]
    · rw [if_neg hw, if_neg hw]
  · show f_X12_twins_20_s _ 77 w _ _ (nI l) σ = _
    unfold f_X12_twins_20_s
    simp (disch := omega) only [↓reduceIte, kz_lt, Option.bind_some, kz_ix, kz_leT, kz_leF, kz_ltT, kz_ltF, kz_lt0, kz_0le, kz_0ltT, kz_le0F, kz_eq0F, kz_10, kz_00, kz_11, kz_01, nI_clamp, nI_1, nI_add, pk_mul, kc0, kc1, kc2, kc3, kc4, kc5, kc6, kc7, kc8, kc9, kc10, kx0, kx1, kx2, kx3, kx4, kx5, kx6, kx7, kx8, kr77_1, kr77_3, kr77_5, kr77_6, kr77_7, kr77_8, kr77_9, kr77_21, kr77_22, kr77_23, kr77_24, kr77_25, kr77_26, kr77_27, kr77_28, kr77_29, kr77_30, kr77_31, kr77_32, kr77_33, kr77_34, kr77_35, kr77_36, kr77_38, kr77_39, kr77_40, kr77_41, kr77_42, kr77_44, kr77_45, kr77_46, kr77_48, kr77_49, kr77_51, kr77_52, kr77_55, kr77_57, kr77_58, kr77_59, kr77_61, kr77_62, kr77_63, kr77_64, kr77_65, kl78, kl79, kl80, kl81, kl82, kl83, kl84, kl85, kl86, kl87, kl88, kl89, kl90, kl91, kl92, kl93, kl94, kl95, kl96, kl97, kl98, kl99, kl100, kl101, kl102, kl103, kl104, kl105, kl106, kl107, kl108, kl109, kl110, kl111, kl112, kl113, kl114, kl115, kl116, kl117, kl118, kl119, kl120, kl121, h.2.1, h.2.2.1.1]
    rw [kM_twins40 hT h hu hl]
    rw [kp_c2_s] at ih
    exact ih
theorem kM_confused40 {T : kp_T} {lv : Nat} {σ : kf_St} {w : Int32} {u : Nat → Nat → Int32} (hT : kp_Tok T) (h : kp_MT T lv σ) (hu : ∀ l o, l < kt_nc T → o < kt_nc T → f_X12_callersApart 77 (nI l) (nI o) σ = some (u l o, σ)) {l : Nat} (hl : l < kt_nc T) (s : Int32 × Int32) (rec : Nat → Int32 → Int32 → Int32 → Int32 → kf_St → Option (Int32 × kf_St)) : f_X12_confused_40 rec kf_F 77 w s.1 s.2 (nI l) (nI (l + 1)) σ = rec 77 w (kp_c1 u l s (kt_nc T - (l + 1))).1 (kp_c1 u l s (kt_nc T - (l + 1))).2 (nI (l + 1)) σ := by
  have hv := h.1
  have h6 := hT.1.1
  have h5 := hT.1.2.1
  refine kp_run (n := kt_nc T - (l + 1)) (fun j f => f_X12_confused_40 rec f 77 w (kp_c1 u l s j).1 (kp_c1 u l s j).2 (nI l) (nI (l + 1 + j)) σ = rec 77 w (kp_c1 u l s (kt_nc T - (l + 1))).1 (kp_c1 u l s (kt_nc T - (l + 1))).2 (nI (l + 1)) σ) (by omega) (fun f => ?_) (fun j hj f ih => ?_)
  · show f_X12_confused_40_s _ _ 77 w _ _ (nI l) (nI (l + 1 + (kt_nc T - (l + 1)))) σ = _
    unfold f_X12_confused_40_s
    simp (disch := omega) only [↓reduceIte, kz_lt, Option.bind_some, kz_ix, kz_leT, kz_leF, kz_ltT, kz_ltF, kz_lt0, kz_0le, kz_0ltT, kz_le0F, kz_eq0F, kz_10, kz_00, kz_11, kz_01, nI_clamp, nI_1, nI_add, pk_mul, kc0, kc1, kc2, kc3, kc4, kc5, kc6, kc7, kc8, kc9, kc10, kx0, kx1, kx2, kx3, kx4, kx5, kx6, kx7, kx8, kr77_1, kr77_3, kr77_5, kr77_6, kr77_7, kr77_8, kr77_9, kr77_21, kr77_22, kr77_23, kr77_24, kr77_25, kr77_26, kr77_27, kr77_28, kr77_29, kr77_30, kr77_31, kr77_32, kr77_33, kr77_34, kr77_35, kr77_36, kr77_38, kr77_39, kr77_40, kr77_41, kr77_42, kr77_44, kr77_45, kr77_46, kr77_48, kr77_49, kr77_51, kr77_52, kr77_55, kr77_57, kr77_58, kr77_59, kr77_61, kr77_62, kr77_63, kr77_64, kr77_65, kl78, kl79, kl80, kl81, kl82, kl83, kl84, kl85, kl86, kl87, kl88, kl89, kl90, kl91, kl92, kl93, kl94, kl95, kl96, kl97, kl98, kl99, kl100, kl101, kl102, kl103, kl104, kl105, kl106, kl107, kl108, kl109, kl110, kl111, kl112, kl113, kl114, kl115, kl116, kl117, kl118, kl119, kl120, kl121, h.2.1, h.2.2.1.2.1]
  · show f_X12_confused_40_s _ _ 77 w _ _ (nI l) (nI (l + 1 + j)) σ = _
    unfold f_X12_confused_40_s f_X12_confused_73 f_X12_confused_91
    simp (disch := omega) only [↓reduceIte, kz_lt, Option.bind_some, kz_ix, kz_leT, kz_leF, kz_ltT, kz_ltF, kz_lt0, kz_0le, kz_0ltT, kz_le0F, kz_eq0F, kz_10, kz_00, kz_11, kz_01, nI_clamp, nI_1, nI_add, pk_mul, kc0, kc1, kc2, kc3, kc4, kc5, kc6, kc7, kc8, kc9, kc10, kx0, kx1, kx2, kx3, kx4, kx5, kx6, kx7, kx8, kr77_1, kr77_3, kr77_5, kr77_6, kr77_7, kr77_8, kr77_9, kr77_21, kr77_22, kr77_23, kr77_24, kr77_25, kr77_26, kr77_27, kr77_28, kr77_29, kr77_30, kr77_31, kr77_32, kr77_33, kr77_34, kr77_35, kr77_36, kr77_38, kr77_39, kr77_40, kr77_41, kr77_42, kr77_44, kr77_45, kr77_46, kr77_48, kr77_49, kr77_51, kr77_52, kr77_55, kr77_57, kr77_58, kr77_59, kr77_61, kr77_62, kr77_63, kr77_64, kr77_65, kl78, kl79, kl80, kl81, kl82, kl83, kl84, kl85, kl86, kl87, kl88, kl89, kl90, kl91, kl92, kl93, kl94, kl95, kl96, kl97, kl98, kl99, kl100, kl101, kl102, kl103, kl104, kl105, kl106, kl107, kl108, kl109, kl110, kl111, kl112, kl113, kl114, kl115, kl116, kl117, kl118, kl119, kl120, kl121, h.2.1, h.2.2.1.2.1, hu l (l + 1 + j) hl (by omega), kn10]
    rw [kp_c1_s] at ih
    unfold kp_c0 at ih
    by_cases h1 : (kp_c1 u l s j).1 < 0
    · rw [if_pos h1] at ih ⊢; exact ih
    · rw [if_neg h1] at ih ⊢
      by_cases h2 : (kp_c1 u l s j).2 ≤ u l (l + 1 + j)
      · rw [if_pos h2] at ih
        rw [if_neg (fun e => absurd h2 (Int32.not_le.mpr e))]; exact ih
      · rw [if_neg h2] at ih
        rw [if_pos (Int32.not_le.mp h2)]; exact ih
theorem kM_confused20 {T : kp_T} {lv : Nat} {σ : kf_St} {w : Int32} {u : Nat → Nat → Int32} (hT : kp_Tok T) (h : kp_MT T lv σ) (hu : ∀ l o, l < kt_nc T → o < kt_nc T → f_X12_callersApart 77 (nI l) (nI o) σ = some (u l o, σ)) : f_X12_confused_20 kf_F 77 w (-2) (-2) 0 σ = some (kp_p2 w (kp_c2 u (kt_nc T) (kt_nc T)), σ) := by
  have hv := h.1
  have h6 := hT.1.1
  have h5 := hT.1.2.1
  refine kp_run (n := kt_nc T) (fun l f => f_X12_confused_20 f 77 w (kp_c2 u (kt_nc T) l).1 (kp_c2 u (kt_nc T) l).2 (nI l) σ = some (kp_p2 w (kp_c2 u (kt_nc T) (kt_nc T)), σ)) (by omega) (fun f => ?_) (fun l hl f ih => ?_)
  · show f_X12_confused_20_s _ 77 w _ _ (nI (kt_nc T)) σ = _
    unfold f_X12_confused_20_s kp_p2
    simp (disch := omega) only [↓reduceIte, kz_lt, Option.bind_some, kz_ix, kz_leT, kz_leF, kz_ltT, kz_ltF, kz_lt0, kz_0le, kz_0ltT, kz_le0F, kz_eq0F, kz_10, kz_00, kz_11, kz_01, nI_clamp, nI_1, nI_add, pk_mul, kc0, kc1, kc2, kc3, kc4, kc5, kc6, kc7, kc8, kc9, kc10, kx0, kx1, kx2, kx3, kx4, kx5, kx6, kx7, kx8, kr77_1, kr77_3, kr77_5, kr77_6, kr77_7, kr77_8, kr77_9, kr77_21, kr77_22, kr77_23, kr77_24, kr77_25, kr77_26, kr77_27, kr77_28, kr77_29, kr77_30, kr77_31, kr77_32, kr77_33, kr77_34, kr77_35, kr77_36, kr77_38, kr77_39, kr77_40, kr77_41, kr77_42, kr77_44, kr77_45, kr77_46, kr77_48, kr77_49, kr77_51, kr77_52, kr77_55, kr77_57, kr77_58, kr77_59, kr77_61, kr77_62, kr77_63, kr77_64, kr77_65, kl78, kl79, kl80, kl81, kl82, kl83, kl84, kl85, kl86, kl87, kl88, kl89, kl90, kl91, kl92, kl93, kl94, kl95, kl96, kl97, kl98, kl99, kl100, kl101, kl102, kl103, kl104, kl105, kl106, kl107, kl108, kl109, kl110, kl111, kl112, kl113, kl114, kl115, kl116, kl117, kl118, kl119, kl120, kl121, h.2.1, h.2.2.1.2.1]
    by_cases hw : w = 0
    · rw [if_pos hw, if_pos hw]
    · rw [if_neg hw, if_neg hw]
  · show f_X12_confused_20_s _ 77 w _ _ (nI l) σ = _
    unfold f_X12_confused_20_s
    simp (disch := omega) only [↓reduceIte, kz_lt, Option.bind_some, kz_ix, kz_leT, kz_leF, kz_ltT, kz_ltF, kz_lt0, kz_0le, kz_0ltT, kz_le0F, kz_eq0F, kz_10, kz_00, kz_11, kz_01, nI_clamp, nI_1, nI_add, pk_mul, kc0, kc1, kc2, kc3, kc4, kc5, kc6, kc7, kc8, kc9, kc10, kx0, kx1, kx2, kx3, kx4, kx5, kx6, kx7, kx8, kr77_1, kr77_3, kr77_5, kr77_6, kr77_7, kr77_8, kr77_9, kr77_21, kr77_22, kr77_23, kr77_24, kr77_25, kr77_26, kr77_27, kr77_28, kr77_29, kr77_30, kr77_31, kr77_32, kr77_33, kr77_34, kr77_35, kr77_36, kr77_38, kr77_39, kr77_40, kr77_41, kr77_42, kr77_44, kr77_45, kr77_46, kr77_48, kr77_49, kr77_51, kr77_52, kr77_55, kr77_57, kr77_58, kr77_59, kr77_61, kr77_62, kr77_63, kr77_64, kr77_65, kl78, kl79, kl80, kl81, kl82, kl83, kl84, kl85, kl86, kl87, kl88, kl89, kl90, kl91, kl92, kl93, kl94, kl95, kl96, kl97, kl98, kl99, kl100, kl101, kl102, kl103, kl104, kl105, kl106, kl107, kl108, kl109, kl110, kl111, kl112, kl113, kl114, kl115, kl116, kl117, kl118, kl119, kl120, kl121, h.2.1, h.2.2.1.2.1]
    rw [kM_confused40 hT h hu hl]
    rw [kp_c2_s] at ih
    exact ih
theorem kM_dap {A : kp_A} {σ : kf_St} (hS : kp_fS (σ.1 111) (ka_S A)) {l o : Nat} (hl : l < 6) (ho : o < 6) : f_X12_doorsApart 77 (nI l) (nI o) σ = some (kp_un ((ka_S A).1 l).1 ((ka_S A).1 o).1, σ) := by
  have q1 := (kp_fD_f (hS.1 l hl)).1
  have q2 := (kp_fD_f (hS.1 o ho)).1
  unfold f_X12_doorsApart
  refine kp_run (n := 4) (fun i f => f_X12_doorsApart_5 f 77 (nI l) (nI o) (l_sum (fun p => kp_of (((ka_S A).1 l).1 p) (((ka_S A).1 o).1 p)) i) (nI i) σ = some (kp_un ((ka_S A).1 l).1 ((ka_S A).1 o).1, σ)) (by omega) (fun f => ?_) (fun i hi f ih => ?_)
  · show f_X12_doorsApart_5_s _ 77 (nI l) (nI o) _ (nI 4) σ = _
    unfold f_X12_doorsApart_5_s
    simp (disch := omega) only [↓reduceIte, kz_lt, Option.bind_some, kz_ix, kz_leT, kz_leF, kz_ltT, kz_ltF, kz_lt0, kz_0le, kz_0ltT, kz_le0F, kz_eq0F, kz_10, kz_00, kz_11, kz_01, nI_clamp, nI_1, nI_add, pk_mul, kn3, kn4, kn5, kn6, kn7, kn8, kn9, kn10, kn16, kn20, kn24, kn30, kn32, kn36, kn40, kn41, kn42, kn48, kn54, kn60, kn61, kn64, kn69, kn70, kn99, kn100, kc0, kc1, kc2, kc3, kc4, kc5, kc6, kc7, kc8, kc9, kc10, kx0, kx1, kx2, kx3, kx4, kx5, kx6, kx7, kx8, kr77_1, kr77_3, kr77_5, kr77_6, kr77_7, kr77_8, kr77_9, kr77_21, kr77_22, kr77_23, kr77_24, kr77_25, kr77_26, kr77_27, kr77_28, kr77_29, kr77_30, kr77_31, kr77_32, kr77_33, kr77_34, kr77_35, kr77_36, kr77_38, kr77_39, kr77_40, kr77_41, kr77_42, kr77_44, kr77_45, kr77_46, kr77_48, kr77_49, kr77_51, kr77_52, kr77_55, kr77_57, kr77_58, kr77_59, kr77_61, kr77_62, kr77_63, kr77_64, kr77_65, kl78, kl79, kl80, kl81, kl82, kl83, kl84, kl85, kl86, kl87, kl88, kl89, kl90, kl91, kl92, kl93, kl94, kl95, kl96, kl97, kl98, kl99, kl100, kl101, kl102, kl103, kl104, kl105, kl106, kl107, kl108, kl109, kl110, kl111, kl112, kl113, kl114, kl115, kl116, kl117, kl118, kl119, kl120, kl121]
    rfl
  · show f_X12_doorsApart_5_s _ 77 (nI l) (nI o) _ (nI i) σ = _
    unfold f_X12_doorsApart_5_s
    simp (disch := omega) only [↓reduceIte, kz_lt, Option.bind_some, kz_ix, kz_leT, kz_leF, kz_ltT, kz_ltF, kz_lt0, kz_0le, kz_0ltT, kz_le0F, kz_eq0F, kz_10, kz_00, kz_11, kz_01, nI_clamp, nI_1, nI_add, pk_mul, kn3, kn4, kn5, kn6, kn7, kn8, kn9, kn10, kn16, kn20, kn24, kn30, kn32, kn36, kn40, kn41, kn42, kn48, kn54, kn60, kn61, kn64, kn69, kn70, kn99, kn100, kc0, kc1, kc2, kc3, kc4, kc5, kc6, kc7, kc8, kc9, kc10, kx0, kx1, kx2, kx3, kx4, kx5, kx6, kx7, kx8, kr77_1, kr77_3, kr77_5, kr77_6, kr77_7, kr77_8, kr77_9, kr77_21, kr77_22, kr77_23, kr77_24, kr77_25, kr77_26, kr77_27, kr77_28, kr77_29, kr77_30, kr77_31, kr77_32, kr77_33, kr77_34, kr77_35, kr77_36, kr77_38, kr77_39, kr77_40, kr77_41, kr77_42, kr77_44, kr77_45, kr77_46, kr77_48, kr77_49, kr77_51, kr77_52, kr77_55, kr77_57, kr77_58, kr77_59, kr77_61, kr77_62, kr77_63, kr77_64, kr77_65, kl78, kl79, kl80, kl81, kl82, kl83, kl84, kl85, kl86, kl87, kl88, kl89, kl90, kl91, kl92, kl93, kl94, kl95, kl96, kl97, kl98, kl99, kl100, kl101, kl102, kl103, kl104, kl105, kl106, kl107, kl108, kl109, kl110, kl111, kl112, kl113, kl114, kl115, kl116, kl117, kl118, kl119, kl120, kl121, q1 i hi, q2 i hi, kp_off]
    exact ih
theorem kM_cap {T : kp_T} {lv : Nat} {σ : kf_St} (hT : kp_Tok T) (h : kp_MT T lv σ) {l o : Nat} (hl : l < kt_nc T) (ho : o < kt_nc T) : f_X12_callersApart 77 (nI l) (nI o) σ = some (kp_un (kt_lo T l) (kt_lo T o), σ) := by
  unfold f_X12_callersApart
  refine kp_run (n := 4) (fun i f => f_X12_callersApart_5 f 77 (nI l) (nI o) (l_sum (fun p => kp_of (kt_lo T l p) (kt_lo T o p)) i) (nI i) σ = some (kp_un (kt_lo T l) (kt_lo T o), σ)) (by omega) (fun f => ?_) (fun i hi f ih => ?_)
  · show f_X12_callersApart_5_s _ 77 (nI l) (nI o) _ (nI 4) σ = _
    unfold f_X12_callersApart_5_s
    simp (disch := omega) only [↓reduceIte, kz_lt, Option.bind_some, kz_ix, kz_leT, kz_leF, kz_ltT, kz_ltF, kz_lt0, kz_0le, kz_0ltT, kz_le0F, kz_eq0F, kz_10, kz_00, kz_11, kz_01, nI_clamp, nI_1, nI_add, pk_mul, kn3, kn4, kn5, kn6, kn7, kn8, kn9, kn10, kn16, kn20, kn24, kn30, kn32, kn36, kn40, kn41, kn42, kn48, kn54, kn60, kn61, kn64, kn69, kn70, kn99, kn100, kc0, kc1, kc2, kc3, kc4, kc5, kc6, kc7, kc8, kc9, kc10, kx0, kx1, kx2, kx3, kx4, kx5, kx6, kx7, kx8, kr77_1, kr77_3, kr77_5, kr77_6, kr77_7, kr77_8, kr77_9, kr77_21, kr77_22, kr77_23, kr77_24, kr77_25, kr77_26, kr77_27, kr77_28, kr77_29, kr77_30, kr77_31, kr77_32, kr77_33, kr77_34, kr77_35, kr77_36, kr77_38, kr77_39, kr77_40, kr77_41, kr77_42, kr77_44, kr77_45, kr77_46, kr77_48, kr77_49, kr77_51, kr77_52, kr77_55, kr77_57, kr77_58, kr77_59, kr77_61, kr77_62, kr77_63, kr77_64, kr77_65, kl78, kl79, kl80, kl81, kl82, kl83, kl84, kl85, kl86, kl87, kl88, kl89, kl90, kl91, kl92, kl93, kl94, kl95, kl96, kl97, kl98, kl99, kl100, kl101, kl102, kl103, kl104, kl105, kl106, kl107, kl108, kl109, kl110, kl111, kl112, kl113, kl114, kl115, kl116, kl117, kl118, kl119, kl120, kl121]
    rfl
  · show f_X12_callersApart_5_s _ 77 (nI l) (nI o) _ (nI i) σ = _
    unfold f_X12_callersApart_5_s
    simp (disch := omega) only [↓reduceIte, kz_lt, Option.bind_some, kz_ix, kz_leT, kz_leF, kz_ltT, kz_ltF, kz_lt0, kz_0le, kz_0ltT, kz_le0F, kz_eq0F, kz_10, kz_00, kz_11, kz_01, nI_clamp, nI_1, nI_add, pk_mul, kn3, kn4, kn5, kn6, kn7, kn8, kn9, kn10, kn16, kn20, kn24, kn30, kn32, kn36, kn40, kn41, kn42, kn48, kn54, kn60, kn61, kn64, kn69, kn70, kn99, kn100, kc0, kc1, kc2, kc3, kc4, kc5, kc6, kc7, kc8, kc9, kc10, kx0, kx1, kx2, kx3, kx4, kx5, kx6, kx7, kx8, kr77_1, kr77_3, kr77_5, kr77_6, kr77_7, kr77_8, kr77_9, kr77_21, kr77_22, kr77_23, kr77_24, kr77_25, kr77_26, kr77_27, kr77_28, kr77_29, kr77_30, kr77_31, kr77_32, kr77_33, kr77_34, kr77_35, kr77_36, kr77_38, kr77_39, kr77_40, kr77_41, kr77_42, kr77_44, kr77_45, kr77_46, kr77_48, kr77_49, kr77_51, kr77_52, kr77_55, kr77_57, kr77_58, kr77_59, kr77_61, kr77_62, kr77_63, kr77_64, kr77_65, kl78, kl79, kl80, kl81, kl82, kl83, kl84, kl85, kl86, kl87, kl88, kl89, kl90, kl91, kl92, kl93, kl94, kl95, kl96, kl97, kl98, kl99, kl100, kl101, kl102, kl103, kl104, kl105, kl106, kl107, kl108, kl109, kl110, kl111, kl112, kl113, kl114, kl115, kl116, kl117, kl118, kl119, kl120, kl121, kp_facePart hT h hl hi, kp_facePart hT h ho hi, kp_off]
    exact ih
theorem kq_confused {A : kp_A} {k : Nat} (hA : kp_Aok A k) (w : Int32) : kp_qq A (f_X11_confused 0 w) (f_X12_confused 77 w) := by
  have h5 := hA.1.1.2.1
  by_cases hw : kp_is w 2 = true
  · have e0 : ∀ σ : kf_St, f_X11_isPick w σ = some (1, σ) := fun σ => by rcases kp_pk hw with rfl | rfl <;> rfl
    have e1 : ∀ σ : kf_St, f_X12_in w 0 1 σ = some (1, σ) := fun σ => by rcases kp_pk hw with rfl | rfl <;> rfl
    refine ⟨kp_p2 w (kp_c2 (fun l o => kp_un (kt_lo (ka_T A) l) (kt_lo (ka_T A) o)) (kt_nc (ka_T A)) (kt_nc (ka_T A))), fun σ h => ⟨σ, ?_, kp_ch.rf⟩, fun σ h => ?_⟩
    · unfold f_X11_confused
      simp (disch := omega) only [↓reduceIte, kz_lt, Option.bind_some, kz_ix, kz_leT, kz_leF, kz_ltT, kz_ltF, kz_lt0, kz_0le, kz_0ltT, kz_le0F, kz_eq0F, kz_10, kz_00, kz_11, kz_01, nI_clamp, nI_1, nI_add, pk_mul, kc0, kc1, kc2, kc3, kc4, kc5, kc6, kc7, kc8, kc9, kc10, kx0, kx1, kx2, kx3, kx4, kx5, kx6, kx7, kx8, kr0_0, kr0_1, kr0_2, kr0_3, kr0_4, kr0_5, kr0_6, kr0_7, kr0_8, kr0_9, kr1_1, kr1_2, kr1_3, kr1_4, kr1_5, kr7_6, kr7_7, kr7_8, kr7_9, kr7_10, kr7_11, kr7_12, kr7_13, kr7_14, kr7_15, kr7_16, kr16_1, kr16_2, kr19_1, kr19_2, kr22_1, kr22_2, kr25_6, kr25_7, kr25_8, kr25_9, kr25_10, kr25_11, kr25_12, kr25_13, kr25_14, kr25_15, kr25_16, kr34_1, kr34_2, kr37_1, kr37_2, kr40_1, kr40_2, kr43_2, kr43_3, kr44_0, kr44_1, kr44_4, kr46_0, kr48_0, kr50_0, kr52_0, kr54_0, kr56_0, kr60_3, kr60_4, kr63_0, kr63_1, kr63_2, kr66_0, kr66_1, kr66_2, kr66_3, kr66_4, kr67_0, kr70_0, kr70_1, kr70_2, kr72_1, kr72_2, kr72_3, kr72_4, kr72_5, kr72_6, kr72_7, kl2, kl3, kl4, kl5, kl6, kl8, kl9, kl10, kl11, kl12, kl13, kl14, kl15, kl17, kl18, kl20, kl21, kl23, kl24, kl26, kl27, kl28, kl29, kl30, kl31, kl32, kl33, kl35, kl36, kl38, kl39, kl41, kl42, kl45, kl47, kl49, kl51, kl53, kl55, kl57, kl58, kl59, kl61, kl62, kl64, kl65, kl68, kl69, kl71, kl73, kl74, kl75, kl76, e0, h.1.1.2.1]
      rw [kC_c2 (u := fun l o => kp_un (kt_lo (ka_T A) l) (kt_lo (ka_T A) o)) (by omega) (fun l o hl ho => ?_)]
      · rfl
      · rw [kp_diff σ (by show _ ≤ 20; omega) (by show _ ≤ 20; omega) (by decide) (by decide) (fun p hp => by rw [h.1.2.2.2.1 l hl p hp]; exact hA.1.2.2.1 l hl p hp) (fun p hp => by rw [h.1.2.2.2.1 o ho p hp]; exact hA.1.2.2.1 o ho p hp)]
        exact congrArg some (Prod.ext (kp_un_congr (fun p hp => h.1.2.2.2.1 l hl p hp) (fun p hp => h.1.2.2.2.1 o ho p hp)) rfl)
    · obtain ⟨lv, hm⟩ := h.1
      refine ⟨σ, ?_, kp_chM.rf⟩
      unfold f_X12_confused
      simp (disch := omega) only [↓reduceIte, kz_lt, Option.bind_some, kz_ix, kz_leT, kz_leF, kz_ltT, kz_ltF, kz_lt0, kz_0le, kz_0ltT, kz_le0F, kz_eq0F, kz_10, kz_00, kz_11, kz_01, nI_clamp, nI_1, nI_add, pk_mul, kc0, kc1, kc2, kc3, kc4, kc5, kc6, kc7, kc8, kc9, kc10, kx0, kx1, kx2, kx3, kx4, kx5, kx6, kx7, kx8, kr77_1, kr77_3, kr77_5, kr77_6, kr77_7, kr77_8, kr77_9, kr77_21, kr77_22, kr77_23, kr77_24, kr77_25, kr77_26, kr77_27, kr77_28, kr77_29, kr77_30, kr77_31, kr77_32, kr77_33, kr77_34, kr77_35, kr77_36, kr77_38, kr77_39, kr77_40, kr77_41, kr77_42, kr77_44, kr77_45, kr77_46, kr77_48, kr77_49, kr77_51, kr77_52, kr77_55, kr77_57, kr77_58, kr77_59, kr77_61, kr77_62, kr77_63, kr77_64, kr77_65, kl78, kl79, kl80, kl81, kl82, kl83, kl84, kl85, kl86, kl87, kl88, kl89, kl90, kl91, kl92, kl93, kl94, kl95, kl96, kl97, kl98, kl99, kl100, kl101, kl102, kl103, kl104, kl105, kl106, kl107, kl108, kl109, kl110, kl111, kl112, kl113, kl114, kl115, kl116, kl117, kl118, kl119, kl120, kl121, e1]
      exact kM_confused20 hA.1 hm (fun l o hl ho => kM_cap hA.1 hm hl ho)
  · refine kp_qq.st (-1) (fun σ h => ?_) (fun σ h => ?_)
    · unfold f_X11_confused
      simp (disch := omega) only [↓reduceIte, kz_lt, Option.bind_some, kz_ix, kz_leT, kz_leF, kz_ltT, kz_ltF, kz_lt0, kz_0le, kz_0ltT, kz_le0F, kz_eq0F, kz_10, kz_00, kz_11, kz_01, nI_clamp, nI_1, nI_add, pk_mul, kc0, kc1, kc2, kc3, kc4, kc5, kc6, kc7, kc8, kc9, kc10, kx0, kx1, kx2, kx3, kx4, kx5, kx6, kx7, kx8, kr0_0, kr0_1, kr0_2, kr0_3, kr0_4, kr0_5, kr0_6, kr0_7, kr0_8, kr0_9, kr1_1, kr1_2, kr1_3, kr1_4, kr1_5, kr7_6, kr7_7, kr7_8, kr7_9, kr7_10, kr7_11, kr7_12, kr7_13, kr7_14, kr7_15, kr7_16, kr16_1, kr16_2, kr19_1, kr19_2, kr22_1, kr22_2, kr25_6, kr25_7, kr25_8, kr25_9, kr25_10, kr25_11, kr25_12, kr25_13, kr25_14, kr25_15, kr25_16, kr34_1, kr34_2, kr37_1, kr37_2, kr40_1, kr40_2, kr43_2, kr43_3, kr44_0, kr44_1, kr44_4, kr46_0, kr48_0, kr50_0, kr52_0, kr54_0, kr56_0, kr60_3, kr60_4, kr63_0, kr63_1, kr63_2, kr66_0, kr66_1, kr66_2, kr66_3, kr66_4, kr67_0, kr70_0, kr70_1, kr70_2, kr72_1, kr72_2, kr72_3, kr72_4, kr72_5, kr72_6, kr72_7, kl2, kl3, kl4, kl5, kl6, kl8, kl9, kl10, kl11, kl12, kl13, kl14, kl15, kl17, kl18, kl20, kl21, kl23, kl24, kl26, kl27, kl28, kl29, kl30, kl31, kl32, kl33, kl35, kl36, kl38, kl39, kl41, kl42, kl45, kl47, kl49, kl51, kl53, kl55, kl57, kl58, kl59, kl61, kl62, kl64, kl65, kl68, kl69, kl71, kl73, kl74, kl75, kl76, kC_pkF _ hw]
    · unfold f_X12_confused
      simp (disch := omega) only [↓reduceIte, kz_lt, Option.bind_some, kz_ix, kz_leT, kz_leF, kz_ltT, kz_ltF, kz_lt0, kz_0le, kz_0ltT, kz_le0F, kz_eq0F, kz_10, kz_00, kz_11, kz_01, nI_clamp, nI_1, nI_add, pk_mul, kc0, kc1, kc2, kc3, kc4, kc5, kc6, kc7, kc8, kc9, kc10, kx0, kx1, kx2, kx3, kx4, kx5, kx6, kx7, kx8, kr77_1, kr77_3, kr77_5, kr77_6, kr77_7, kr77_8, kr77_9, kr77_21, kr77_22, kr77_23, kr77_24, kr77_25, kr77_26, kr77_27, kr77_28, kr77_29, kr77_30, kr77_31, kr77_32, kr77_33, kr77_34, kr77_35, kr77_36, kr77_38, kr77_39, kr77_40, kr77_41, kr77_42, kr77_44, kr77_45, kr77_46, kr77_48, kr77_49, kr77_51, kr77_52, kr77_55, kr77_57, kr77_58, kr77_59, kr77_61, kr77_62, kr77_63, kr77_64, kr77_65, kl78, kl79, kl80, kl81, kl82, kl83, kl84, kl85, kl86, kl87, kl88, kl89, kl90, kl91, kl92, kl93, kl94, kl95, kl96, kl97, kl98, kl99, kl100, kl101, kl102, kl103, kl104, kl105, kl106, kl107, kl108, kl109, kl110, kl111, kl112, kl113, kl114, kl115, kl116, kl117, kl118, kl119, kl120, kl121, kM_pkF _ hw]
theorem kC_fir {A : kp_A} {k : Nat} (hA : kp_Aok A k) {σ : kf_St} (h : kp_Cr A σ) : ∃ σ', f_X7_facesInRow 44 σ = some σ' ∧ kp_ch kp_xC σ σ' ∧ ∀ d, d < kt_nd (ka_T A) → ∀ q, q < 4 → σ'.1 59 (4 * d + q) = ((ka_S A).1 d).1 q := by
  have h6 := hA.1.1.1
  unfold f_X7_facesInRow
  refine kp_run (n := 6) (fun i f => ∀ τ, kp_ch (fun r => r = 59) σ τ → (∀ d, d < i → ∀ q, q < 4 → τ.1 59 (4 * d + q) = σ.1 (46 + 2 * d + 1) q) → ∃ σ', f_X7_facesInRow_2 f 44 (nI i) τ = some σ' ∧ kp_ch kp_xC σ σ' ∧ ∀ d, d < kt_nd (ka_T A) → ∀ q, q < 4 → σ'.1 59 (4 * d + q) = ((ka_S A).1 d).1 q) (by omega) (fun f τ c ht => ?_) (fun i hi f ih τ c ht => ?_) σ kp_ch.rf (fun d hd => absurd hd (Nat.not_lt_zero d))
  · refine ⟨τ, ?_, c.mono (fun r e => by unfold kp_xC; omega), fun d hd q hq => by rw [ht d (by omega) q hq]; exact (kC_fa h hd).1 q hq⟩
    show f_X7_facesInRow_2_s _ 44 (nI 6) τ = _
    unfold f_X7_facesInRow_2_s
    simp (disch := omega) only [↓reduceIte, kz_lt, Option.bind_some, kz_ix, kz_leT, kz_leF, kz_ltT, kz_ltF, kz_lt0, kz_0le, kz_0ltT, kz_le0F, kz_eq0F, kz_10, kz_00, kz_11, kz_01, nI_clamp, nI_1, nI_add, pk_mul, kn3, kn4, kn5, kn6, kn7, kn8, kn9, kn10, kn16, kn20, kn24, kn30, kn32, kn36, kn40, kn41, kn42, kn48, kn54, kn60, kn61, kn64, kn69, kn70, kn99, kn100, kc0, kc1, kc2, kc3, kc4, kc5, kc6, kc7, kc8, kc9, kc10, kx0, kx1, kx2, kx3, kx4, kx5, kx6, kx7, kx8, kr0_0, kr0_1, kr0_2, kr0_3, kr0_4, kr0_5, kr0_6, kr0_7, kr0_8, kr0_9, kr1_1, kr1_2, kr1_3, kr1_4, kr1_5, kr7_6, kr7_7, kr7_8, kr7_9, kr7_10, kr7_11, kr7_12, kr7_13, kr7_14, kr7_15, kr7_16, kr16_1, kr16_2, kr19_1, kr19_2, kr22_1, kr22_2, kr25_6, kr25_7, kr25_8, kr25_9, kr25_10, kr25_11, kr25_12, kr25_13, kr25_14, kr25_15, kr25_16, kr34_1, kr34_2, kr37_1, kr37_2, kr40_1, kr40_2, kr43_2, kr43_3, kr44_0, kr44_1, kr44_4, kr46_0, kr48_0, kr50_0, kr52_0, kr54_0, kr56_0, kr60_3, kr60_4, kr63_0, kr63_1, kr63_2, kr66_0, kr66_1, kr66_2, kr66_3, kr66_4, kr67_0, kr70_0, kr70_1, kr70_2, kr72_1, kr72_2, kr72_3, kr72_4, kr72_5, kr72_6, kr72_7, kl2, kl3, kl4, kl5, kl6, kl8, kl9, kl10, kl11, kl12, kl13, kl14, kl15, kl17, kl18, kl20, kl21, kl23, kl24, kl26, kl27, kl28, kl29, kl30, kl31, kl32, kl33, kl35, kl36, kl38, kl39, kl41, kl42, kl45, kl47, kl49, kl51, kl53, kl55, kl57, kl58, kl59, kl61, kl62, kl64, kl65, kl68, kl69, kl71, kl73, kl74, kl75, kl76]
  · show ∃ σ', f_X7_facesInRow_2_s _ 44 (nI i) τ = some σ' ∧ _
    unfold f_X7_facesInRow_2_s
    simp (disch := omega) only [↓reduceIte, kz_lt, Option.bind_some, kz_ix, kz_leT, kz_leF, kz_ltT, kz_ltF, kz_lt0, kz_0le, kz_0ltT, kz_le0F, kz_eq0F, kz_10, kz_00, kz_11, kz_01, nI_clamp, nI_1, nI_add, pk_mul, kn3, kn4, kn5, kn6, kn7, kn8, kn9, kn10, kn16, kn20, kn24, kn30, kn32, kn36, kn40, kn41, kn42, kn48, kn54, kn60, kn61, kn64, kn69, kn70, kn99, kn100, kc0, kc1, kc2, kc3, kc4, kc5, kc6, kc7, kc8, kc9, kc10, kx0, kx1, kx2, kx3, kx4, kx5, kx6, kx7, kx8, kr0_0, kr0_1, kr0_2, kr0_3, kr0_4, kr0_5, kr0_6, kr0_7, kr0_8, kr0_9, kr1_1, kr1_2, kr1_3, kr1_4, kr1_5, kr7_6, kr7_7, kr7_8, kr7_9, kr7_10, kr7_11, kr7_12, kr7_13, kr7_14, kr7_15, kr7_16, kr16_1, kr16_2, kr19_1, kr19_2, kr22_1, kr22_2, kr25_6, kr25_7, kr25_8, kr25_9, kr25_10, kr25_11, kr25_12, kr25_13, kr25_14, kr25_15, kr25_16, kr34_1, kr34_2, kr37_1, kr37_2, kr40_1, kr40_2, kr43_2, kr43_3, kr44_0, kr44_1, kr44_4, kr46_0, kr48_0, kr50_0, kr52_0, kr54_0, kr56_0, kr60_3, kr60_4, kr63_0, kr63_1, kr63_2, kr66_0, kr66_1, kr66_2, kr66_3, kr66_4, kr67_0, kr70_0, kr70_1, kr70_2, kr72_1, kr72_2, kr72_3, kr72_4, kr72_5, kr72_6, kr72_7, kl2, kl3, kl4, kl5, kl6, kl8, kl9, kl10, kl11, kl12, kl13, kl14, kl15, kl17, kl18, kl20, kl21, kl23, kl24, kl26, kl27, kl28, kl29, kl30, kl31, kl32, kl33, kl35, kl36, kl38, kl39, kl41, kl42, kl45, kl47, kl49, kl51, kl53, kl55, kl57, kl58, kl59, kl61, kl62, kl64, kl65, kl68, kl69, kl71, kl73, kl74, kl75, kl76, kz_rf45, kz_rfK, kz_lnK, kz_cok0]
    refine ih _ (kp_ch.ci (S := fun r => r = 59) c rfl) (fun d hd q hq => ?_)
    by_cases e : d = i
    · subst e
      rw [kz_ci_in (by omega) (by omega), show 0 + (4 * d + q - 4 * d) = q by omega, c.1 _ (by omega)]
    · rw [kz_ci_out (by omega)]; exact ht d (by omega) q hq
theorem kq_twins {A : kp_A} {k : Nat} (hA : kp_Aok A k) (w : Int32) : kp_qq A (f_X11_twins 0 w) (f_X12_twins 77 w) := by
  have h6 := hA.1.1.1
  by_cases hw : kp_is w 2 = true
  · have e0 : ∀ σ : kf_St, f_X11_isPick w σ = some (1, σ) := fun σ => by rcases kp_pk hw with rfl | rfl <;> rfl
    have e1 : ∀ σ : kf_St, f_X12_in w 0 1 σ = some (1, σ) := fun σ => by rcases kp_pk hw with rfl | rfl <;> rfl
    refine ⟨kp_p2 w (kp_c2 (fun l o => kp_un ((ka_S A).1 l).1 ((ka_S A).1 o).1) (kt_nd (ka_T A)) (kt_nd (ka_T A))), fun σ h => ?_, fun σ h => ?_⟩
    · obtain ⟨σ', e, c', hf⟩ := kC_fir hA h
      have h' := h.ch hA c'
      refine ⟨σ', ?_, c'⟩
      unfold f_X11_twins
      simp (disch := omega) only [↓reduceIte, kz_lt, Option.bind_some, kz_ix, kz_leT, kz_leF, kz_ltT, kz_ltF, kz_lt0, kz_0le, kz_0ltT, kz_le0F, kz_eq0F, kz_10, kz_00, kz_11, kz_01, nI_clamp, nI_1, nI_add, pk_mul, kc0, kc1, kc2, kc3, kc4, kc5, kc6, kc7, kc8, kc9, kc10, kx0, kx1, kx2, kx3, kx4, kx5, kx6, kx7, kx8, kr0_0, kr0_1, kr0_2, kr0_3, kr0_4, kr0_5, kr0_6, kr0_7, kr0_8, kr0_9, kr1_1, kr1_2, kr1_3, kr1_4, kr1_5, kr7_6, kr7_7, kr7_8, kr7_9, kr7_10, kr7_11, kr7_12, kr7_13, kr7_14, kr7_15, kr7_16, kr16_1, kr16_2, kr19_1, kr19_2, kr22_1, kr22_2, kr25_6, kr25_7, kr25_8, kr25_9, kr25_10, kr25_11, kr25_12, kr25_13, kr25_14, kr25_15, kr25_16, kr34_1, kr34_2, kr37_1, kr37_2, kr40_1, kr40_2, kr43_2, kr43_3, kr44_0, kr44_1, kr44_4, kr46_0, kr48_0, kr50_0, kr52_0, kr54_0, kr56_0, kr60_3, kr60_4, kr63_0, kr63_1, kr63_2, kr66_0, kr66_1, kr66_2, kr66_3, kr66_4, kr67_0, kr70_0, kr70_1, kr70_2, kr72_1, kr72_2, kr72_3, kr72_4, kr72_5, kr72_6, kr72_7, kl2, kl3, kl4, kl5, kl6, kl8, kl9, kl10, kl11, kl12, kl13, kl14, kl15, kl17, kl18, kl20, kl21, kl23, kl24, kl26, kl27, kl28, kl29, kl30, kl31, kl32, kl33, kl35, kl36, kl38, kl39, kl41, kl42, kl45, kl47, kl49, kl51, kl53, kl55, kl57, kl58, kl59, kl61, kl62, kl64, kl65, kl68, kl69, kl71, kl73, kl74, kl75, kl76, e0, e, h'.1.1.1]
      rw [kC_c2 (u := fun l o => kp_un ((ka_S A).1 l).1 ((ka_S A).1 o).1) (by omega) (fun l o hl ho => ?_)]
      · rfl
      · rw [kp_diff σ' (by show _ ≤ 24; omega) (by show _ ≤ 24; omega) (by decide) (by decide) (fun p hp => by rw [hf l hl p hp]; exact (hA.2.1.1 l hl).1 p hp) (fun p hp => by rw [hf o ho p hp]; exact (hA.2.1.1 o ho).1 p hp)]
        exact congrArg some (Prod.ext (kp_un_congr (fun p hp => hf l hl p hp) (fun p hp => hf o ho p hp)) rfl)
    · obtain ⟨lv, hm⟩ := h.1
      refine ⟨σ, ?_, kp_chM.rf⟩
      unfold f_X12_twins
      simp (disch := omega) only [↓reduceIte, kz_lt, Option.bind_some, kz_ix, kz_leT, kz_leF, kz_ltT, kz_ltF, kz_lt0, kz_0le, kz_0ltT, kz_le0F, kz_eq0F, kz_10, kz_00, kz_11, kz_01, nI_clamp, nI_1, nI_add, pk_mul, kc0, kc1, kc2, kc3, kc4, kc5, kc6, kc7, kc8, kc9, kc10, kx0, kx1, kx2, kx3, kx4, kx5, kx6, kx7, kx8, kr77_1, kr77_3, kr77_5, kr77_6, kr77_7, kr77_8, kr77_9, kr77_21, kr77_22, kr77_23, kr77_24, kr77_25, kr77_26, kr77_27, kr77_28, kr77_29, kr77_30, kr77_31, kr77_32, kr77_33, kr77_34, kr77_35, kr77_36, kr77_38, kr77_39, kr77_40, kr77_41, kr77_42, kr77_44, kr77_45, kr77_46, kr77_48, kr77_49, kr77_51, kr77_52, kr77_55, kr77_57, kr77_58, kr77_59, kr77_61, kr77_62, kr77_63, kr77_64, kr77_65, kl78, kl79, kl80, kl81, kl82, kl83, kl84, kl85, kl86, kl87, kl88, kl89, kl90, kl91, kl92, kl93, kl94, kl95, kl96, kl97, kl98, kl99, kl100, kl101, kl102, kl103, kl104, kl105, kl106, kl107, kl108, kl109, kl110, kl111, kl112, kl113, kl114, kl115, kl116, kl117, kl118, kl119, kl120, kl121, e1]
      exact kM_twins20 hA.1 hm (fun l o hl ho => kM_dap h.2.1 (by omega) (by omega))
  · refine kp_qq.st (-1) (fun σ h => ?_) (fun σ h => ?_)
    · unfold f_X11_twins
      simp (disch := omega) only [↓reduceIte, kz_lt, Option.bind_some, kz_ix, kz_leT, kz_leF, kz_ltT, kz_ltF, kz_lt0, kz_0le, kz_0ltT, kz_le0F, kz_eq0F, kz_10, kz_00, kz_11, kz_01, nI_clamp, nI_1, nI_add, pk_mul, kc0, kc1, kc2, kc3, kc4, kc5, kc6, kc7, kc8, kc9, kc10, kx0, kx1, kx2, kx3, kx4, kx5, kx6, kx7, kx8, kr0_0, kr0_1, kr0_2, kr0_3, kr0_4, kr0_5, kr0_6, kr0_7, kr0_8, kr0_9, kr1_1, kr1_2, kr1_3, kr1_4, kr1_5, kr7_6, kr7_7, kr7_8, kr7_9, kr7_10, kr7_11, kr7_12, kr7_13, kr7_14, kr7_15, kr7_16, kr16_1, kr16_2, kr19_1, kr19_2, kr22_1, kr22_2, kr25_6, kr25_7, kr25_8, kr25_9, kr25_10, kr25_11, kr25_12, kr25_13, kr25_14, kr25_15, kr25_16, kr34_1, kr34_2, kr37_1, kr37_2, kr40_1, kr40_2, kr43_2, kr43_3, kr44_0, kr44_1, kr44_4, kr46_0, kr48_0, kr50_0, kr52_0, kr54_0, kr56_0, kr60_3, kr60_4, kr63_0, kr63_1, kr63_2, kr66_0, kr66_1, kr66_2, kr66_3, kr66_4, kr67_0, kr70_0, kr70_1, kr70_2, kr72_1, kr72_2, kr72_3, kr72_4, kr72_5, kr72_6, kr72_7, kl2, kl3, kl4, kl5, kl6, kl8, kl9, kl10, kl11, kl12, kl13, kl14, kl15, kl17, kl18, kl20, kl21, kl23, kl24, kl26, kl27, kl28, kl29, kl30, kl31, kl32, kl33, kl35, kl36, kl38, kl39, kl41, kl42, kl45, kl47, kl49, kl51, kl53, kl55, kl57, kl58, kl59, kl61, kl62, kl64, kl65, kl68, kl69, kl71, kl73, kl74, kl75, kl76, kC_pkF _ hw]
    · unfold f_X12_twins
      simp (disch := omega) only [↓reduceIte, kz_lt, Option.bind_some, kz_ix, kz_leT, kz_leF, kz_ltT, kz_ltF, kz_lt0, kz_0le, kz_0ltT, kz_le0F, kz_eq0F, kz_10, kz_00, kz_11, kz_01, nI_clamp, nI_1, nI_add, pk_mul, kc0, kc1, kc2, kc3, kc4, kc5, kc6, kc7, kc8, kc9, kc10, kx0, kx1, kx2, kx3, kx4, kx5, kx6, kx7, kx8, kr77_1, kr77_3, kr77_5, kr77_6, kr77_7, kr77_8, kr77_9, kr77_21, kr77_22, kr77_23, kr77_24, kr77_25, kr77_26, kr77_27, kr77_28, kr77_29, kr77_30, kr77_31, kr77_32, kr77_33, kr77_34, kr77_35, kr77_36, kr77_38, kr77_39, kr77_40, kr77_41, kr77_42, kr77_44, kr77_45, kr77_46, kr77_48, kr77_49, kr77_51, kr77_52, kr77_55, kr77_57, kr77_58, kr77_59, kr77_61, kr77_62, kr77_63, kr77_64, kr77_65, kl78, kl79, kl80, kl81, kl82, kl83, kl84, kl85, kl86, kl87, kl88, kl89, kl90, kl91, kl92, kl93, kl94, kl95, kl96, kl97, kl98, kl99, kl100, kl101, kl102, kl103, kl104, kl105, kl106, kl107, kl108, kl109, kl110, kl111, kl112, kl113, kl114, kl115, kl116, kl117, kl118, kl119, kl120, kl121, kM_pkF _ hw]
