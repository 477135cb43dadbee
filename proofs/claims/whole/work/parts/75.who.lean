/-! ===== pure: who, ask ===== -/
def kp_wy (A : kp_A) (d p c : Nat) : Int32 := if kp_st (kt_lg (ka_T A)) ((ka_S A).1 d) (kt_lo (ka_T A) c) c p (nI (ka_S A).2.2.2) = 0 then 0 else if kt_lo (ka_T A) c p ≤ ((ka_S A).1 d).1 p then -1 else 1
theorem kp_wy_3 (A : kp_A) (d p c : Nat) : kp_wy A d p c = -1 ∨ kp_wy A d p c = 0 ∨ kp_wy A d p c = 1 := by
  unfold kp_wy
  by_cases h1 : kp_st (kt_lg (ka_T A)) ((ka_S A).1 d) (kt_lo (ka_T A) c) c p (nI (ka_S A).2.2.2) = 0
  · rw [if_pos h1]; exact Or.inr (Or.inl rfl)
  · rw [if_neg h1]
    by_cases h2 : kt_lo (ka_T A) c p ≤ ((ka_S A).1 d).1 p
    · rw [if_pos h2]; exact Or.inl rfl
    · rw [if_neg h2]; exact Or.inr (Or.inr rfl)
theorem kC_way {A : kp_A} {k : Nat} {σ : kf_St} {d c p : Nat} (hA : kp_Aok A k) (h : kp_Cr A σ) (hd : d < kt_nd (ka_T A)) (hc : c < kt_nc (ka_T A)) (hp : p < 4) : ∃ σ', f_X9_wayOf 72 (nI d) (nI p) (nI c) σ = some (kp_wy A d p c, σ') ∧ kp_ch (fun r => r = 64 ∨ r = 18) σ σ' := by
  have h6 := hA.1.1.1
  have h5 := hA.1.1.2.1
  have hf := (kC_fa h hd).1
  obtain ⟨σ', e, c'⟩ := kp_stepOf (σ := σ) (a := 16) (k := 46 + 2 * d) (g := 11) (w := c) (p := p) (dy := nI (ka_S A).2.2.2) (gf := kt_lo (ka_T A) c) h.1.2.2.2.2.2.1 hA.1.2.2.2.2.2.1 ⟨by decide, by decide⟩ (kp_isK_d (by omega)) (by show _ ≤ 20; omega) (by decide) (fun q hq => h.1.2.2.2.1 c hc q hq) (fun q hq => by rw [hf q hq]; exact (hA.2.1.1 d hd).1 q hq) (hA.1.2.2.1 c hc) hp
  rw [h.2.1.1 d hd] at e
  refine ⟨σ', ?_, c'⟩
  have h' := h.ch hA (c'.mono (fun r e => by unfold kp_xC; omega))
  unfold f_X9_wayOf kp_wy
  simp (disch := omega) only [↓reduceIte, kz_lt, Option.bind_some, kz_ix, kz_leT, kz_leF, kz_ltT, kz_ltF, kz_lt0, kz_0le, kz_0ltT, kz_le0F, kz_eq0F, kz_10, kz_00, kz_11, kz_01, nI_clamp, nI_1, nI_add, pk_mul, kn3, kn4, kn5, kn6, kn7, kn8, kn9, kn10, kn16, kn20, kn24, kn30, kn32, kn36, kn40, kn41, kn42, kn48, kn54, kn60, kn61, kn64, kn69, kn70, kn99, kn100, kc0, kc1, kc2, kc3, kc4, kc5, kc6, kc7, kc8, kc9, kc10, kx0, kx1, kx2, kx3, kx4, kx5, kx6, kx7, kx8, kr0_0, kr0_1, kr0_2, kr0_3, kr0_4, kr0_5, kr0_6, kr0_7, kr0_8, kr0_9, kr1_1, kr1_2, kr1_3, kr1_4, kr1_5, kr7_6, kr7_7, kr7_8, kr7_9, kr7_10, kr7_11, kr7_12, kr7_13, kr7_14, kr7_15, kr7_16, kr16_1, kr16_2, kr19_1, kr19_2, kr22_1, kr22_2, kr25_6, kr25_7, kr25_8, kr25_9, kr25_10, kr25_11, kr25_12, kr25_13, kr25_14, kr25_15, kr25_16, kr34_1, kr34_2, kr37_1, kr37_2, kr40_1, kr40_2, kr43_2, kr43_3, kr44_0, kr44_1, kr44_4, kr46_0, kr48_0, kr50_0, kr52_0, kr54_0, kr56_0, kr60_3, kr60_4, kr63_0, kr63_1, kr63_2, kr66_0, kr66_1, kr66_2, kr66_3, kr66_4, kr67_0, kr70_0, kr70_1, kr70_2, kr72_1, kr72_2, kr72_3, kr72_4, kr72_5, kr72_6, kr72_7, kl2, kl3, kl4, kl5, kl6, kl8, kl9, kl10, kl11, kl12, kl13, kl14, kl15, kl17, kl18, kl20, kl21, kl23, kl24, kl26, kl27, kl28, kl29, kl30, kl31, kl32, kl33, kl35, kl36, kl38, kl39, kl41, kl42, kl45, kl47, kl49, kl51, kl53, kl55, kl57, kl58, kl59, kl61, kl62, kl64, kl65, kl68, kl69, kl71, kl73, kl74, kl75, kl76, kz_rf45, kz_rfK, kz_lnK, h.2.1.2.2.2, e, h'.1.2.2.2.1 c hc p hp, (kC_fa h' hd).1 p hp]
  by_cases h1 : kp_st (kt_lg (ka_T A)) ((ka_S A).1 d) (kt_lo (ka_T A) c) c p (nI (ka_S A).2.2.2) = 0
  · rw [if_pos h1, if_pos h1]
  · rw [if_neg h1, if_neg h1]
    by_cases h2 : kt_lo (ka_T A) c p ≤ ((ka_S A).1 d).1 p
    · rw [if_pos h2, if_pos h2]
    · rw [if_neg h2, if_neg h2]
theorem kM_way {A : kp_A} {k lv : Nat} {σ : kf_St} {d c p : Nat} (hA : kp_Aok A k) (h : kp_MT (ka_T A) lv σ) (hS : kp_fS (σ.1 112) (ka_S A)) (hd : d < kt_nd (ka_T A)) (hc : c < kt_nc (ka_T A)) (hp : p < 4) : ∃ σ', f_X12_wayOf 77 (nI d) (nI p) (nI c) σ = some (kp_wy A d p c, σ') ∧ kp_chM (fun r => r = 109 ∨ r = 110) (fun j => j = 50) σ σ' := by
  have h6 := hA.1.1.1
  obtain ⟨σ', e, c'⟩ := kM_st hA h hS hd hc hp
  refine ⟨σ', ?_, c'⟩
  have h' := h.chM c' (fun r e => by omega) (by omega)
  have q := (kp_fD_f (hS.1 d (by omega))).1 p hp
  rw [← c'.1 112 (by decide) (by decide)] at q
  unfold f_X12_wayOf kp_wy
  simp (disch := omega) only [↓reduceIte, kz_lt, Option.bind_some, kz_ix, kz_leT, kz_leF, kz_ltT, kz_ltF, kz_lt0, kz_0le, kz_0ltT, kz_le0F, kz_eq0F, kz_10, kz_00, kz_11, kz_01, nI_clamp, nI_1, nI_add, pk_mul, kn3, kn4, kn5, kn6, kn7, kn8, kn9, kn10, kn16, kn20, kn24, kn30, kn32, kn36, kn40, kn41, kn42, kn48, kn54, kn60, kn61, kn64, kn69, kn70, kn99, kn100, kc0, kc1, kc2, kc3, kc4, kc5, kc6, kc7, kc8, kc9, kc10, kx0, kx1, kx2, kx3, kx4, kx5, kx6, kx7, kx8, kr77_1, kr77_3, kr77_5, kr77_6, kr77_7, kr77_8, kr77_9, kr77_21, kr77_22, kr77_23, kr77_24, kr77_25, kr77_26, kr77_27, kr77_28, kr77_29, kr77_30, kr77_31, kr77_32, kr77_33, kr77_34, kr77_35, kr77_36, kr77_38, kr77_39, kr77_40, kr77_41, kr77_42, kr77_44, kr77_45, kr77_46, kr77_48, kr77_49, kr77_51, kr77_52, kr77_55, kr77_57, kr77_58, kr77_59, kr77_61, kr77_62, kr77_63, kr77_64, kr77_65, kl78, kl79, kl80, kl81, kl82, kl83, kl84, kl85, kl86, kl87, kl88, kl89, kl90, kl91, kl92, kl93, kl94, kl95, kl96, kl97, kl98, kl99, kl100, kl101, kl102, kl103, kl104, kl105, kl106, kl107, kl108, kl109, kl110, kl111, kl112, kl113, kl114, kl115, kl116, kl117, kl118, kl119, kl120, kl121, e, kp_facePart hA.1 h' hc hp, q]
  by_cases h1 : kp_st (kt_lg (ka_T A)) ((ka_S A).1 d) (kt_lo (ka_T A) c) c p (nI (ka_S A).2.2.2) = 0
  · rw [if_pos h1, if_pos h1]
  · rw [if_neg h1, if_neg h1]
    have ne : ¬ kt_lo (ka_T A) c p = ((ka_S A).1 d).1 p := fun e => h1 (by
      unfold kp_st
      rw [show kp_of (((ka_S A).1 d).1 p) (kt_lo (ka_T A) c p) = 0 by unfold kp_of; rw [e, if_pos (Int32.le_refl _), Int32.sub_self]]
      exact kp_wn0 _)
    by_cases h2 : kt_lo (ka_T A) c p ≤ ((ka_S A).1 d).1 p
    · rw [if_pos h2, if_neg]
      intro h3
      exact ne (Int32.le_antisymm h2 h3)
    · rw [if_neg h2, if_pos (Int32.le_of_lt (Int32.not_le.mp h2))]
def kp_ft (A : kp_A) (c : Nat) : Nat → Bool
  | 0 => true
  | i + 1 => kp_ft A c i && decide (kp_wy A (ka_wd A i) (ka_wp A i) c = ka_ww A i)
theorem kp_ft_s (A : kp_A) (c i : Nat) : kp_ft A c (i + 1) = (kp_ft A c i && decide (kp_wy A (ka_wd A i) (ka_wp A i) c = ka_ww A i)) := rfl
theorem kp_bF {b : Bool} (h : ¬ b = true) : b = false := by
  cases b
  · rfl
  · exact absurd rfl h
theorem kp_ft_f {A : kp_A} {c i : Nat} (h : kp_ft A c i = false) : ∀ m, kp_ft A c (i + m) = false
  | 0 => h
  | m + 1 => by
    show (kp_ft A c (i + m) && _) = false
    rw [kp_ft_f h m]; rfl
theorem kC_s21 {A : kp_A} {k kk : Nat} (hA : kp_Aok A k) (hkk : kk ≤ ka_w A) {σ : kf_St} (h : kp_Cr A σ) {c : Nat} (hc : c < kt_nc (ka_T A)) (v2 : Int32) (rec : Nat → Int32 → Int32 → Int32 → kf_St → Option (Int32 × kf_St)) : ∀ τ0, kp_ch (fun r => r = 64 ∨ r = 18) σ τ0 → ∃ τ', f_X9_suspects_21 rec kf_F 72 (nI kk) v2 (nI c) 1 0 τ0 = rec 72 (nI kk) (if kp_ft A c kk then v2 ||| ((1 : Int32) <<< (nI c &&& 31)) else v2) (nI (c + 1)) τ' ∧ kp_ch (fun r => r = 64 ∨ r = 18) σ τ' := by
  have h5 := hA.1.1.2.1
  have h20 := hA.2.2.2.2.1.1
  have fin : ∀ (τ : kf_St) (b : Bool), f_X9_suspects_83 rec 72 (nI kk) v2 (nI c) (if b then 1 else 0) τ = rec 72 (nI kk) (if b then v2 ||| ((1 : Int32) <<< (nI c &&& 31)) else v2) (nI (c + 1)) τ := by
    intro τ b
    unfold f_X9_suspects_83 f_X9_suspects_96
    cases b
    · simp (disch := omega) only [↓reduceIte, kz_lt, Option.bind_some, kz_ix, kz_leT, kz_leF, kz_ltT, kz_ltF, kz_lt0, kz_0le, kz_0ltT, kz_le0F, kz_eq0F, kz_10, kz_00, kz_11, kz_01, nI_clamp, nI_1, nI_add, pk_mul]
      rw [if_pos (show (if false = true then (1 : Int32) else 0) = 0 from rfl), if_neg (show ¬ false = true by decide), Int32.or_zero]
    · simp (disch := omega) only [↓reduceIte, kz_lt, Option.bind_some, kz_ix, kz_leT, kz_leF, kz_ltT, kz_ltF, kz_lt0, kz_0le, kz_0ltT, kz_le0F, kz_eq0F, kz_10, kz_00, kz_11, kz_01, nI_clamp, nI_1, nI_add, pk_mul]
  intro τ0 c0
  refine kp_run (n := kk) (fun i f => ∀ τ, kp_ch (fun r => r = 64 ∨ r = 18) σ τ → ∃ τ', f_X9_suspects_21 rec f 72 (nI kk) v2 (nI c) (if kp_ft A c i then 1 else 0) (nI i) τ = rec 72 (nI kk) (if kp_ft A c kk then v2 ||| ((1 : Int32) <<< (nI c &&& 31)) else v2) (nI (c + 1)) τ' ∧ kp_ch (fun r => r = 64 ∨ r = 18) σ τ') (by omega) (fun f τ cc => ?_) (fun i hi f ih τ cc => ?_) τ0 c0
  · refine ⟨τ, ?_, cc⟩
    show f_X9_suspects_21_s _ _ 72 (nI kk) v2 (nI c) _ (nI kk) τ = _
    unfold f_X9_suspects_21_s
    rw [if_pos (nI_le (Nat.le_refl _) (by omega))]
    exact fin τ _
  · have h' := h.ch hA (cc.mono (fun r e => by unfold kp_xC; omega))
    show ∃ τ', f_X9_suspects_21_s _ _ 72 (nI kk) v2 (nI c) _ (nI i) τ = _ ∧ _
    unfold f_X9_suspects_21_s f_X9_suspects_75
    rw [if_neg (nI_ge hi (by omega)), h'.2.2.2.2.1.1, if_neg (nI_ge (show i < ka_w A by omega) (by omega))]
    by_cases b : kp_ft A c i = true
    · obtain ⟨q1, q2⟩ := hA.2.2.2.2.1.2 i (by omega)
      obtain ⟨w1, w2, w3⟩ := h'.2.2.2.2.1.2 i (by omega)
      obtain ⟨τ', a1, a2⟩ := kC_way hA h' q1 hc q2
      have ih := ih τ' (cc.tr a2)
      rw [kp_ft_s, b, Bool.true_and] at ih
      rw [if_neg (by rw [if_pos b]; decide)]
      simp (disch := omega) only [↓reduceIte, kz_lt, Option.bind_some, kz_ix, kz_leT, kz_leF, kz_ltT, kz_ltF, kz_lt0, kz_0le, kz_0ltT, kz_le0F, kz_eq0F, kz_10, kz_00, kz_11, kz_01, nI_clamp, nI_1, nI_add, pk_mul, kc0, kc1, kc2, kc3, kc4, kc5, kc6, kc7, kc8, kc9, kc10, kx0, kx1, kx2, kx3, kx4, kx5, kx6, kx7, kx8, kr0_0, kr0_1, kr0_2, kr0_3, kr0_4, kr0_5, kr0_6, kr0_7, kr0_8, kr0_9, kr1_1, kr1_2, kr1_3, kr1_4, kr1_5, kr7_6, kr7_7, kr7_8, kr7_9, kr7_10, kr7_11, kr7_12, kr7_13, kr7_14, kr7_15, kr7_16, kr16_1, kr16_2, kr19_1, kr19_2, kr22_1, kr22_2, kr25_6, kr25_7, kr25_8, kr25_9, kr25_10, kr25_11, kr25_12, kr25_13, kr25_14, kr25_15, kr25_16, kr34_1, kr34_2, kr37_1, kr37_2, kr40_1, kr40_2, kr43_2, kr43_3, kr44_0, kr44_1, kr44_4, kr46_0, kr48_0, kr50_0, kr52_0, kr54_0, kr56_0, kr60_3, kr60_4, kr63_0, kr63_1, kr63_2, kr66_0, kr66_1, kr66_2, kr66_3, kr66_4, kr67_0, kr70_0, kr70_1, kr70_2, kr72_1, kr72_2, kr72_3, kr72_4, kr72_5, kr72_6, kr72_7, kl2, kl3, kl4, kl5, kl6, kl8, kl9, kl10, kl11, kl12, kl13, kl14, kl15, kl17, kl18, kl20, kl21, kl23, kl24, kl26, kl27, kl28, kl29, kl30, kl31, kl32, kl33, kl35, kl36, kl38, kl39, kl41, kl42, kl45, kl47, kl49, kl51, kl53, kl55, kl57, kl58, kl59, kl61, kl62, kl64, kl65, kl68, kl69, kl71, kl73, kl74, kl75, kl76, w1, w2, a1, a2.1 75 (by decide), w3]
      by_cases e : kp_wy A (ka_wd A i) (ka_wp A i) c = ka_ww A i
      · rw [if_pos (decide_eq_true e)] at ih
        rw [if_pos e]; exact ih
      · rw [if_neg (fun x => e (of_decide_eq_true x))] at ih
        rw [if_neg e]; exact ih
    · rw [if_pos (by rw [if_neg b])]
      refine ⟨τ, ?_, cc⟩
      have q : kp_ft A c kk = kp_ft A c i := by
        rw [show kk = i + (kk - i) by omega, kp_ft_f (kp_bF b), kp_bF b]
      rw [q]
      exact fin τ _
theorem kC_sus {A : kp_A} {k kk : Nat} (hA : kp_Aok A k) (hkk : kk ≤ ka_w A) {σ : kf_St} (h : kp_Cr A σ) : ∃ τ', f_X9_suspects 72 (nI kk) σ = some (kp_bs (fun c => kp_ft A c kk) (kt_nc (ka_T A)), τ') ∧ kp_ch (fun r => r = 64 ∨ r = 18) σ τ' := by
  have h5 := hA.1.1.2.1
  unfold f_X9_suspects
  refine kp_run (n := kt_nc (ka_T A)) (fun i f => ∀ τ, kp_ch (fun r => r = 64 ∨ r = 18) σ τ → ∃ τ', f_X9_suspects_4 f 72 (nI kk) (kp_bs (fun c => kp_ft A c kk) i) (nI i) τ = some (kp_bs (fun c => kp_ft A c kk) (kt_nc (ka_T A)), τ') ∧ kp_ch (fun r => r = 64 ∨ r = 18) σ τ') (by omega) (fun f τ cc => ?_) (fun i hi f ih τ cc => ?_) σ kp_ch.rf
  · have h' := h.ch hA (cc.mono (fun r e => by unfold kp_xC; omega))
    refine ⟨τ, ?_, cc⟩
    show f_X9_suspects_4_s _ 72 (nI kk) _ (nI (kt_nc (ka_T A))) τ = _
    unfold f_X9_suspects_4_s
    simp (disch := omega) only [↓reduceIte, kz_lt, Option.bind_some, kz_ix, kz_leT, kz_leF, kz_ltT, kz_ltF, kz_lt0, kz_0le, kz_0ltT, kz_le0F, kz_eq0F, kz_10, kz_00, kz_11, kz_01, nI_clamp, nI_1, nI_add, pk_mul, kc0, kc1, kc2, kc3, kc4, kc5, kc6, kc7, kc8, kc9, kc10, kx0, kx1, kx2, kx3, kx4, kx5, kx6, kx7, kx8, kr0_0, kr0_1, kr0_2, kr0_3, kr0_4, kr0_5, kr0_6, kr0_7, kr0_8, kr0_9, kr1_1, kr1_2, kr1_3, kr1_4, kr1_5, kr7_6, kr7_7, kr7_8, kr7_9, kr7_10, kr7_11, kr7_12, kr7_13, kr7_14, kr7_15, kr7_16, kr16_1, kr16_2, kr19_1, kr19_2, kr22_1, kr22_2, kr25_6, kr25_7, kr25_8, kr25_9, kr25_10, kr25_11, kr25_12, kr25_13, kr25_14, kr25_15, kr25_16, kr34_1, kr34_2, kr37_1, kr37_2, kr40_1, kr40_2, kr43_2, kr43_3, kr44_0, kr44_1, kr44_4, kr46_0, kr48_0, kr50_0, kr52_0, kr54_0, kr56_0, kr60_3, kr60_4, kr63_0, kr63_1, kr63_2, kr66_0, kr66_1, kr66_2, kr66_3, kr66_4, kr67_0, kr70_0, kr70_1, kr70_2, kr72_1, kr72_2, kr72_3, kr72_4, kr72_5, kr72_6, kr72_7, kl2, kl3, kl4, kl5, kl6, kl8, kl9, kl10, kl11, kl12, kl13, kl14, kl15, kl17, kl18, kl20, kl21, kl23, kl24, kl26, kl27, kl28, kl29, kl30, kl31, kl32, kl33, kl35, kl36, kl38, kl39, kl41, kl42, kl45, kl47, kl49, kl51, kl53, kl55, kl57, kl58, kl59, kl61, kl62, kl64, kl65, kl68, kl69, kl71, kl73, kl74, kl75, kl76, h'.1.1.2.1]
  · have h' := h.ch hA (cc.mono (fun r e => by unfold kp_xC; omega))
    obtain ⟨τ1, a1, a2⟩ := kC_s21 hA hkk h hi (kp_bs (fun c => kp_ft A c kk) i) (f_X9_suspects_4 f) τ cc
    obtain ⟨τ2, b1, b2⟩ := ih τ1 a2
    refine ⟨τ2, ?_, b2⟩
    show f_X9_suspects_4_s _ 72 (nI kk) _ (nI i) τ = _
    unfold f_X9_suspects_4_s
    simp (disch := omega) only [↓reduceIte, kz_lt, Option.bind_some, kz_ix, kz_leT, kz_leF, kz_ltT, kz_ltF, kz_lt0, kz_0le, kz_0ltT, kz_le0F, kz_eq0F, kz_10, kz_00, kz_11, kz_01, nI_clamp, nI_1, nI_add, pk_mul, kc0, kc1, kc2, kc3, kc4, kc5, kc6, kc7, kc8, kc9, kc10, kx0, kx1, kx2, kx3, kx4, kx5, kx6, kx7, kx8, kr0_0, kr0_1, kr0_2, kr0_3, kr0_4, kr0_5, kr0_6, kr0_7, kr0_8, kr0_9, kr1_1, kr1_2, kr1_3, kr1_4, kr1_5, kr7_6, kr7_7, kr7_8, kr7_9, kr7_10, kr7_11, kr7_12, kr7_13, kr7_14, kr7_15, kr7_16, kr16_1, kr16_2, kr19_1, kr19_2, kr22_1, kr22_2, kr25_6, kr25_7, kr25_8, kr25_9, kr25_10, kr25_11, kr25_12, kr25_13, kr25_14, kr25_15, kr25_16, kr34_1, kr34_2, kr37_1, kr37_2, kr40_1, kr40_2, kr43_2, kr43_3, kr44_0, kr44_1, kr44_4, kr46_0, kr48_0, kr50_0, kr52_0, kr54_0, kr56_0, kr60_3, kr60_4, kr63_0, kr63_1, kr63_2, kr66_0, kr66_1, kr66_2, kr66_3, kr66_4, kr67_0, kr70_0, kr70_1, kr70_2, kr72_1, kr72_2, kr72_3, kr72_4, kr72_5, kr72_6, kr72_7, kl2, kl3, kl4, kl5, kl6, kl8, kl9, kl10, kl11, kl12, kl13, kl14, kl15, kl17, kl18, kl20, kl21, kl23, kl24, kl26, kl27, kl28, kl29, kl30, kl31, kl32, kl33, kl35, kl36, kl38, kl39, kl41, kl42, kl45, kl47, kl49, kl51, kl53, kl55, kl57, kl58, kl59, kl61, kl62, kl64, kl65, kl68, kl69, kl71, kl73, kl74, kl75, kl76, h'.1.1.2.1]
    rw [a1]
    exact b1
theorem kM_s27 {A : kp_A} {k lv kk : Nat} (hA : kp_Aok A k) (hkk : kk ≤ ka_w A) {σ : kf_St} (h : kp_MT (ka_T A) lv σ) (hS : kp_fS (σ.1 112) (ka_S A)) (ht : ∀ i, i < ka_w A → σ.1 117 i = nI (ka_wd A i) ∧ σ.1 118 i = nI (ka_wp A i) ∧ σ.1 119 i = ka_ww A i) {c : Nat} (hc : c < kt_nc (ka_T A)) (v2 : Int32) (rec : Nat → Int32 → Int32 → Int32 → kf_St → Option (Int32 × kf_St)) : ∀ τ0, kp_chM (fun r => r = 109 ∨ r = 110) (fun j => j = 50) σ τ0 → ∃ τ', f_X12_whoBits_27 rec kf_F 77 (nI kk) v2 (nI c) 1 0 τ0 = rec 77 (nI kk) (if kp_ft A c kk then v2 ||| ((1 : Int32) <<< (nI c &&& 31)) else v2) (nI (c + 1)) τ' ∧ kp_chM (fun r => r = 109 ∨ r = 110) (fun j => j = 50) σ τ' := by
  have h5 := hA.1.1.2.1
  have h20 := hA.2.2.2.2.1.1
  intro τ0 c0
  refine kp_run (n := kk) (fun i f => ∀ τ, kp_chM (fun r => r = 109 ∨ r = 110) (fun j => j = 50) σ τ → ∃ τ', f_X12_whoBits_27 rec f 77 (nI kk) v2 (nI c) (if kp_ft A c i then 1 else 0) (nI i) τ = rec 77 (nI kk) (if kp_ft A c kk then v2 ||| ((1 : Int32) <<< (nI c &&& 31)) else v2) (nI (c + 1)) τ' ∧ kp_chM (fun r => r = 109 ∨ r = 110) (fun j => j = 50) σ τ') (by omega) (fun f τ cc => ?_) (fun i hi f ih τ cc => ?_) τ0 c0
  · refine ⟨τ, ?_, cc⟩
    show f_X12_whoBits_27_s _ _ 77 (nI kk) v2 (nI c) _ (nI kk) τ = _
    unfold f_X12_whoBits_27_s f_X12_whoBits_82
    rw [if_pos (nI_le (Nat.le_refl _) (by omega))]
    cases e : kp_ft A c kk
    · simp (disch := omega) only [↓reduceIte, kz_lt, Option.bind_some, kz_ix, kz_leT, kz_leF, kz_ltT, kz_ltF, kz_lt0, kz_0le, kz_0ltT, kz_le0F, kz_eq0F, kz_10, kz_00, kz_11, kz_01, nI_clamp, nI_1, nI_add, pk_mul]
      rw [if_pos (show (if false = true then (1 : Int32) else 0) = 0 from rfl), if_neg (show ¬ false = true by decide)]
    · simp (disch := omega) only [↓reduceIte, kz_lt, Option.bind_some, kz_ix, kz_leT, kz_leF, kz_ltT, kz_ltF, kz_lt0, kz_0le, kz_0ltT, kz_le0F, kz_eq0F, kz_10, kz_00, kz_11, kz_01, nI_clamp, nI_1, nI_add, pk_mul]
  · have h' := h.chM cc (fun r e => by omega) (by omega)
    have hs' : kp_fS (τ.1 112) (ka_S A) := by rw [cc.1 112 (by decide) (by decide)]; exact hS
    obtain ⟨q1, q2⟩ := hA.2.2.2.2.1.2 i (by omega)
    obtain ⟨w1, w2, w3⟩ := ht i (by omega)
    obtain ⟨τ', a1, a2⟩ := kM_way hA h' hs' q1 hc q2
    have cc2 := cc.tr a2
    rw [← cc.1 117 (by decide) (by decide)] at w1
    rw [← cc.1 118 (by decide) (by decide)] at w2
    rw [← cc2.1 119 (by decide) (by decide)] at w3
    have ih := ih τ' cc2
    rw [kp_ft_s] at ih
    show ∃ τ', f_X12_whoBits_27_s _ _ 77 (nI kk) v2 (nI c) _ (nI i) τ = _ ∧ _
    unfold f_X12_whoBits_27_s f_X12_whoBits_65
    simp (disch := omega) only [↓reduceIte, kz_lt, Option.bind_some, kz_ix, kz_leT, kz_leF, kz_ltT, kz_ltF, kz_lt0, kz_0le, kz_0ltT, kz_le0F, kz_eq0F, kz_10, kz_00, kz_11, kz_01, nI_clamp, nI_1, nI_add, pk_mul, kc0, kc1, kc2, kc3, kc4, kc5, kc6, kc7, kc8, kc9, kc10, kx0, kx1, kx2, kx3, kx4, kx5, kx6, kx7, kx8, kr77_1, kr77_3, kr77_5, kr77_6, kr77_7, kr77_8, kr77_9, kr77_21, kr77_22, kr77_23, kr77_24, kr77_25, kr77_26, kr77_27, kr77_28, kr77_29, kr77_30, kr77_31, kr77_32, kr77_33, kr77_34, kr77_35, kr77_36, kr77_38, kr77_39, kr77_40, kr77_41, kr77_42, kr77_44, kr77_45, kr77_46, kr77_48, kr77_49, kr77_51, kr77_52, kr77_55, kr77_57, kr77_58, kr77_59, kr77_61, kr77_62, kr77_63, kr77_64, kr77_65, kl78, kl79, kl80, kl81, kl82, kl83, kl84, kl85, kl86, kl87, kl88, kl89, kl90, kl91, kl92, kl93, kl94, kl95, kl96, kl97, kl98, kl99, kl100, kl101, kl102, kl103, kl104, kl105, kl106, kl107, kl108, kl109, kl110, kl111, kl112, kl113, kl114, kl115, kl116, kl117, kl118, kl119, kl120, kl121, w1, w2, a1, w3]
    by_cases e : kp_wy A (ka_wd A i) (ka_wp A i) c = ka_ww A i
    · rw [decide_eq_true e, Bool.and_true] at ih
      rw [if_pos e]; exact ih
    · rw [decide_eq_false e, Bool.and_false] at ih
      rw [if_neg (by decide)] at ih
      rw [if_neg e]; exact ih
theorem kM_sus {A : kp_A} {k kk : Nat} (hA : kp_Aok A k) (hkk : kk ≤ ka_w A) {σ : kf_St} (h : kp_Mr A σ) : ∃ lv τ', f_X12_whoBits 77 (nI kk) σ = some (kp_bs (fun c => kp_ft A c kk) (kt_nc (ka_T A)), τ') ∧ kp_chM kp_xM kp_jM σ τ' ∧ kp_MT (ka_T A) lv τ' ∧ kp_fS (τ'.1 112) (ka_S A) := by
  have h5 := hA.1.1.2.1
  obtain ⟨lv, σ', e, c', hm, hm', hs, -⟩ := kM_co hA h
  have hl := hm.1
  have ht := (h.ch c').2.2.2.2.1.2
  have main : ∃ τ', f_X12_whoBits_8 kf_F 77 (nI kk) 0 0 σ' = some (kp_bs (fun c => kp_ft A c kk) (kt_nc (ka_T A)), τ') ∧ kp_chM (fun r => r = 109 ∨ r = 110) (fun j => j = 50) σ' τ' := by
    refine kp_run (n := kt_nc (ka_T A)) (fun i f => ∀ τ, kp_chM (fun r => r = 109 ∨ r = 110) (fun j => j = 50) σ' τ → ∃ τ', f_X12_whoBits_8 f 77 (nI kk) (kp_bs (fun c => kp_ft A c kk) i) (nI i) τ = some (kp_bs (fun c => kp_ft A c kk) (kt_nc (ka_T A)), τ') ∧ kp_chM (fun r => r = 109 ∨ r = 110) (fun j => j = 50) σ' τ') (by omega) (fun f τ cc => ?_) (fun i hi f ih τ cc => ?_) σ' kp_chM.rf
    · have h2 := hm'.chM cc (fun r e => by omega) (by omega)
      refine ⟨τ, ?_, cc⟩
      show f_X12_whoBits_8_s _ 77 (nI kk) _ (nI (kt_nc (ka_T A))) τ = _
      unfold f_X12_whoBits_8_s
      simp (disch := omega) only [↓reduceIte, kz_lt, Option.bind_some, kz_ix, kz_leT, kz_leF, kz_ltT, kz_ltF, kz_lt0, kz_0le, kz_0ltT, kz_le0F, kz_eq0F, kz_10, kz_00, kz_11, kz_01, nI_clamp, nI_1, nI_add, pk_mul, kc0, kc1, kc2, kc3, kc4, kc5, kc6, kc7, kc8, kc9, kc10, kx0, kx1, kx2, kx3, kx4, kx5, kx6, kx7, kx8, kr77_1, kr77_3, kr77_5, kr77_6, kr77_7, kr77_8, kr77_9, kr77_21, kr77_22, kr77_23, kr77_24, kr77_25, kr77_26, kr77_27, kr77_28, kr77_29, kr77_30, kr77_31, kr77_32, kr77_33, kr77_34, kr77_35, kr77_36, kr77_38, kr77_39, kr77_40, kr77_41, kr77_42, kr77_44, kr77_45, kr77_46, kr77_48, kr77_49, kr77_51, kr77_52, kr77_55, kr77_57, kr77_58, kr77_59, kr77_61, kr77_62, kr77_63, kr77_64, kr77_65, kl78, kl79, kl80, kl81, kl82, kl83, kl84, kl85, kl86, kl87, kl88, kl89, kl90, kl91, kl92, kl93, kl94, kl95, kl96, kl97, kl98, kl99, kl100, kl101, kl102, kl103, kl104, kl105, kl106, kl107, kl108, kl109, kl110, kl111, kl112, kl113, kl114, kl115, kl116, kl117, kl118, kl119, kl120, kl121, h2.2.1, h2.2.2.1.2.1]
    · have h2 := hm'.chM cc (fun r e => by omega) (by omega)
      obtain ⟨τ1, a1, a2⟩ := kM_s27 hA hkk hm' hs ht hi (kp_bs (fun c => kp_ft A c kk) i) (f_X12_whoBits_8 f) τ cc
      obtain ⟨τ2, b1, b2⟩ := ih τ1 a2
      refine ⟨τ2, ?_, b2⟩
      show f_X12_whoBits_8_s _ 77 (nI kk) _ (nI i) τ = _
      unfold f_X12_whoBits_8_s
      simp (disch := omega) only [↓reduceIte, kz_lt, Option.bind_some, kz_ix, kz_leT, kz_leF, kz_ltT, kz_ltF, kz_lt0, kz_0le, kz_0ltT, kz_le0F, kz_eq0F, kz_10, kz_00, kz_11, kz_01, nI_clamp, nI_1, nI_add, pk_mul, kc0, kc1, kc2, kc3, kc4, kc5, kc6, kc7, kc8, kc9, kc10, kx0, kx1, kx2, kx3, kx4, kx5, kx6, kx7, kx8, kr77_1, kr77_3, kr77_5, kr77_6, kr77_7, kr77_8, kr77_9, kr77_21, kr77_22, kr77_23, kr77_24, kr77_25, kr77_26, kr77_27, kr77_28, kr77_29, kr77_30, kr77_31, kr77_32, kr77_33, kr77_34, kr77_35, kr77_36, kr77_38, kr77_39, kr77_40, kr77_41, kr77_42, kr77_44, kr77_45, kr77_46, kr77_48, kr77_49, kr77_51, kr77_52, kr77_55, kr77_57, kr77_58, kr77_59, kr77_61, kr77_62, kr77_63, kr77_64, kr77_65, kl78, kl79, kl80, kl81, kl82, kl83, kl84, kl85, kl86, kl87, kl88, kl89, kl90, kl91, kl92, kl93, kl94, kl95, kl96, kl97, kl98, kl99, kl100, kl101, kl102, kl103, kl104, kl105, kl106, kl107, kl108, kl109, kl110, kl111, kl112, kl113, kl114, kl115, kl116, kl117, kl118, kl119, kl120, kl121, h2.2.1, h2.2.2.1.2.1]
      rw [a1]
      exact b1
  obtain ⟨τ', m1, m2⟩ := main
  refine ⟨lv, τ', ?_, c'.tr (kM_xm m2), hm'.chM m2 (fun r e => by omega) (by omega), by rw [m2.1 112 (by decide) (by decide)]; exact hs⟩
  unfold f_X12_whoBits
  rw [e, Option.bind_some]
  exact m1
/-! sets of bits, as numbers -/
def kp_bn (f : Nat → Bool) : Nat → Nat
  | 0 => 0
  | i + 1 => if f i then kp_bn f i + 2 ^ i else kp_bn f i
theorem kp_bn_s (f : Nat → Bool) (i : Nat) : kp_bn f (i + 1) = if f i then kp_bn f i + 2 ^ i else kp_bn f i := rfl
theorem kp_bn_lt (f : Nat → Bool) : ∀ n, kp_bn f n < 2 ^ n
  | 0 => by show 0 < 1; decide
  | n + 1 => by
    have := kp_bn_lt f n
    rw [kp_bn_s, Nat.pow_succ]
    by_cases h : f n = true
    · rw [if_pos h]; omega
    · rw [if_neg h]; omega
theorem kp_or_all : ∀ i, i < 10 → ∀ a, a < 2 ^ i → nI a ||| ((1 : Int32) <<< (nI i &&& 31)) = nI (a + 2 ^ i) := by decide +kernel
theorem kp_bs_n (f : Nat → Bool) : ∀ n, n ≤ 10 → kp_bs f n = nI (kp_bn f n)
  | 0, _ => rfl
  | n + 1, h => by
    rw [kp_bn_s]
    by_cases e : f n = true
    · rw [kp_bs_t e, if_pos e, kp_bs_n f n (by omega), kp_or_all n (by omega) _ (kp_bn_lt f n)]
    · rw [kp_bs_f e, if_neg e, kp_bs_n f n (by omega)]
def kp_pc (x : Int32) : Int32 := l_sum (fun i => (x >>> (nI i &&& 31)) &&& 1) 10
theorem kM_bits (x : Int32) (σ : kf_St) : f_X12_bits x σ = some (kp_pc x, σ) := by
  unfold f_X12_bits
  refine kp_run (n := 10) (fun i f => f_X12_bits_4 f x (l_sum (fun i => (x >>> (nI i &&& 31)) &&& 1) i) (nI i) σ = some (kp_pc x, σ)) (by omega) (fun f => ?_) (fun i hi f ih => ?_)
  · show f_X12_bits_4_s _ x _ (nI 10) σ = _
    unfold f_X12_bits_4_s
    simp (disch := omega) only [↓reduceIte, kz_lt, Option.bind_some, kz_ix, kz_leT, kz_leF, kz_ltT, kz_ltF, kz_lt0, kz_0le, kz_0ltT, kz_le0F, kz_eq0F, kz_10, kz_00, kz_11, kz_01, nI_clamp, nI_1, nI_add, pk_mul, kn3, kn4, kn5, kn6, kn7, kn8, kn9, kn10, kn16, kn20, kn24, kn30, kn32, kn36, kn40, kn41, kn42, kn48, kn54, kn60, kn61, kn64, kn69, kn70, kn99, kn100, kc0, kc1, kc2, kc3, kc4, kc5, kc6, kc7, kc8, kc9, kc10, kx0, kx1, kx2, kx3, kx4, kx5, kx6, kx7, kx8, kr77_1, kr77_3, kr77_5, kr77_6, kr77_7, kr77_8, kr77_9, kr77_21, kr77_22, kr77_23, kr77_24, kr77_25, kr77_26, kr77_27, kr77_28, kr77_29, kr77_30, kr77_31, kr77_32, kr77_33, kr77_34, kr77_35, kr77_36, kr77_38, kr77_39, kr77_40, kr77_41, kr77_42, kr77_44, kr77_45, kr77_46, kr77_48, kr77_49, kr77_51, kr77_52, kr77_55, kr77_57, kr77_58, kr77_59, kr77_61, kr77_62, kr77_63, kr77_64, kr77_65, kl78, kl79, kl80, kl81, kl82, kl83, kl84, kl85, kl86, kl87, kl88, kl89, kl90, kl91, kl92, kl93, kl94, kl95, kl96, kl97, kl98, kl99, kl100, kl101, kl102, kl103, kl104, kl105, kl106, kl107, kl108, kl109, kl110, kl111, kl112, kl113, kl114, kl115, kl116, kl117, kl118, kl119, kl120, kl121]
    rfl
  · show f_X12_bits_4_s _ x _ (nI i) σ = _
    unfold f_X12_bits_4_s
    simp (disch := omega) only [↓reduceIte, kz_lt, Option.bind_some, kz_ix, kz_leT, kz_leF, kz_ltT, kz_ltF, kz_lt0, kz_0le, kz_0ltT, kz_le0F, kz_eq0F, kz_10, kz_00, kz_11, kz_01, nI_clamp, nI_1, nI_add, pk_mul, kn3, kn4, kn5, kn6, kn7, kn8, kn9, kn10, kn16, kn20, kn24, kn30, kn32, kn36, kn40, kn41, kn42, kn48, kn54, kn60, kn61, kn64, kn69, kn70, kn99, kn100, kc0, kc1, kc2, kc3, kc4, kc5, kc6, kc7, kc8, kc9, kc10, kx0, kx1, kx2, kx3, kx4, kx5, kx6, kx7, kx8, kr77_1, kr77_3, kr77_5, kr77_6, kr77_7, kr77_8, kr77_9, kr77_21, kr77_22, kr77_23, kr77_24, kr77_25, kr77_26, kr77_27, kr77_28, kr77_29, kr77_30, kr77_31, kr77_32, kr77_33, kr77_34, kr77_35, kr77_36, kr77_38, kr77_39, kr77_40, kr77_41, kr77_42, kr77_44, kr77_45, kr77_46, kr77_48, kr77_49, kr77_51, kr77_52, kr77_55, kr77_57, kr77_58, kr77_59, kr77_61, kr77_62, kr77_63, kr77_64, kr77_65, kl78, kl79, kl80, kl81, kl82, kl83, kl84, kl85, kl86, kl87, kl88, kl89, kl90, kl91, kl92, kl93, kl94, kl95, kl96, kl97, kl98, kl99, kl100, kl101, kl102, kl103, kl104, kl105, kl106, kl107, kl108, kl109, kl110, kl111, kl112, kl113, kl114, kl115, kl116, kl117, kl118, kl119, kl120, kl121]
    exact ih
def kp_bc (v0 : Int32) : Int32 := (f_J6_bitCount_0f7a4 v0 (fun _ _ => 0, fun _ _ => 0)).elim 0 (fun q => q.1)
theorem kC_bc (v : Int32) (σ : kf_St) : f_J6_bitCount_0f7a4 v σ = some (kp_bc v, σ) := rfl
theorem kp_bc_all : ∀ a, a < 64 → kp_bc (nI a) = kp_pc (nI a) := by decide +kernel
theorem kq_who {A : kp_A} {k : Nat} (hA : kp_Aok A k) (x w : Int32) : kp_qq A (f_X11_who 0 x w) (f_X12_who 77 x w) := by
  have h20 := hA.2.2.2.2.1.1
  have h5 := hA.1.1.2.1
  by_cases hx : kp_is x (ka_w A + 1) = true
  · obtain ⟨kk, hkk, rfl⟩ := kp_is_t (by omega) hx
    have hkk : kk ≤ ka_w A := by omega
    by_cases hw : kp_is w 2 = true
    · have e0 : ∀ σ : kf_St, f_X11_isPick w σ = some (1, σ) := fun σ => by rcases kp_pk hw with rfl | rfl <;> rfl
      have e1 : ∀ σ : kf_St, f_X12_in w 0 1 σ = some (1, σ) := fun σ => by rcases kp_pk hw with rfl | rfl <;> rfl
      have eb : kp_bc (kp_bs (fun c => kp_ft A c kk) (kt_nc (ka_T A))) = kp_pc (kp_bs (fun c => kp_ft A c kk) (kt_nc (ka_T A))) := by
        rw [kp_bs_n _ _ (by omega)]
        refine kp_bc_all _ (Nat.lt_of_lt_of_le (kp_bn_lt _ _) ?_)
        exact Nat.pow_le_pow_right (n := 2) (j := 6) (by decide) (by omega)
      refine ⟨if w = 0 then kp_pc (kp_bs (fun c => kp_ft A c kk) (kt_nc (ka_T A))) else kp_bs (fun c => kp_ft A c kk) (kt_nc (ka_T A)), fun σ h => ?_, fun σ h => ?_⟩
      · obtain ⟨τ', a1, a2⟩ := kC_sus hA hkk h
        refine ⟨τ', ?_, a2.mono (fun r e => by unfold kp_xC; omega)⟩
        unfold f_X11_who
        simp (disch := omega) only [↓reduceIte, kz_lt, Option.bind_some, kz_ix, kz_leT, kz_leF, kz_ltT, kz_ltF, kz_lt0, kz_0le, kz_0ltT, kz_le0F, kz_eq0F, kz_10, kz_00, kz_11, kz_01, nI_clamp, nI_1, nI_add, pk_mul, kc0, kc1, kc2, kc3, kc4, kc5, kc6, kc7, kc8, kc9, kc10, kx0, kx1, kx2, kx3, kx4, kx5, kx6, kx7, kx8, kr0_0, kr0_1, kr0_2, kr0_3, kr0_4, kr0_5, kr0_6, kr0_7, kr0_8, kr0_9, kr1_1, kr1_2, kr1_3, kr1_4, kr1_5, kr7_6, kr7_7, kr7_8, kr7_9, kr7_10, kr7_11, kr7_12, kr7_13, kr7_14, kr7_15, kr7_16, kr16_1, kr16_2, kr19_1, kr19_2, kr22_1, kr22_2, kr25_6, kr25_7, kr25_8, kr25_9, kr25_10, kr25_11, kr25_12, kr25_13, kr25_14, kr25_15, kr25_16, kr34_1, kr34_2, kr37_1, kr37_2, kr40_1, kr40_2, kr43_2, kr43_3, kr44_0, kr44_1, kr44_4, kr46_0, kr48_0, kr50_0, kr52_0, kr54_0, kr56_0, kr60_3, kr60_4, kr63_0, kr63_1, kr63_2, kr66_0, kr66_1, kr66_2, kr66_3, kr66_4, kr67_0, kr70_0, kr70_1, kr70_2, kr72_1, kr72_2, kr72_3, kr72_4, kr72_5, kr72_6, kr72_7, kl2, kl3, kl4, kl5, kl6, kl8, kl9, kl10, kl11, kl12, kl13, kl14, kl15, kl17, kl18, kl20, kl21, kl23, kl24, kl26, kl27, kl28, kl29, kl30, kl31, kl32, kl33, kl35, kl36, kl38, kl39, kl41, kl42, kl45, kl47, kl49, kl51, kl53, kl55, kl57, kl58, kl59, kl61, kl62, kl64, kl65, kl68, kl69, kl71, kl73, kl74, kl75, kl76, h.2.2.2.2.1.1, e0, a1, kC_bc, eb]
        by_cases hw : w = 0
        · rw [if_pos hw, if_pos hw]
        · rw [if_neg hw, if_neg hw]
      · obtain ⟨lv, τ', a1, a2, -, -⟩ := kM_sus hA hkk h
        refine ⟨τ', ?_, a2⟩
        unfold f_X12_who
        simp (disch := omega) only [↓reduceIte, kz_lt, Option.bind_some, kz_ix, kz_leT, kz_leF, kz_ltT, kz_ltF, kz_lt0, kz_0le, kz_0ltT, kz_le0F, kz_eq0F, kz_10, kz_00, kz_11, kz_01, nI_clamp, nI_1, nI_add, pk_mul, kc0, kc1, kc2, kc3, kc4, kc5, kc6, kc7, kc8, kc9, kc10, kx0, kx1, kx2, kx3, kx4, kx5, kx6, kx7, kx8, kr77_1, kr77_3, kr77_5, kr77_6, kr77_7, kr77_8, kr77_9, kr77_21, kr77_22, kr77_23, kr77_24, kr77_25, kr77_26, kr77_27, kr77_28, kr77_29, kr77_30, kr77_31, kr77_32, kr77_33, kr77_34, kr77_35, kr77_36, kr77_38, kr77_39, kr77_40, kr77_41, kr77_42, kr77_44, kr77_45, kr77_46, kr77_48, kr77_49, kr77_51, kr77_52, kr77_55, kr77_57, kr77_58, kr77_59, kr77_61, kr77_62, kr77_63, kr77_64, kr77_65, kl78, kl79, kl80, kl81, kl82, kl83, kl84, kl85, kl86, kl87, kl88, kl89, kl90, kl91, kl92, kl93, kl94, kl95, kl96, kl97, kl98, kl99, kl100, kl101, kl102, kl103, kl104, kl105, kl106, kl107, kl108, kl109, kl110, kl111, kl112, kl113, kl114, kl115, kl116, kl117, kl118, kl119, kl120, kl121, h.2.2.2.2.1.1, kM_in (show ka_w A < 2 ^ 30 - 1 by omega) hkk, e1, a1, kM_bits]
        by_cases hw : w = 0
        · rw [if_pos hw, if_pos hw]
        · rw [if_neg hw, if_neg hw]
    · refine kp_qq.st (-1) (fun σ h => ?_) (fun σ h => ?_)
      · unfold f_X11_who
        simp (disch := omega) only [↓reduceIte, kz_lt, Option.bind_some, kz_ix, kz_leT, kz_leF, kz_ltT, kz_ltF, kz_lt0, kz_0le, kz_0ltT, kz_le0F, kz_eq0F, kz_10, kz_00, kz_11, kz_01, nI_clamp, nI_1, nI_add, pk_mul, kc0, kc1, kc2, kc3, kc4, kc5, kc6, kc7, kc8, kc9, kc10, kx0, kx1, kx2, kx3, kx4, kx5, kx6, kx7, kx8, kr0_0, kr0_1, kr0_2, kr0_3, kr0_4, kr0_5, kr0_6, kr0_7, kr0_8, kr0_9, kr1_1, kr1_2, kr1_3, kr1_4, kr1_5, kr7_6, kr7_7, kr7_8, kr7_9, kr7_10, kr7_11, kr7_12, kr7_13, kr7_14, kr7_15, kr7_16, kr16_1, kr16_2, kr19_1, kr19_2, kr22_1, kr22_2, kr25_6, kr25_7, kr25_8, kr25_9, kr25_10, kr25_11, kr25_12, kr25_13, kr25_14, kr25_15, kr25_16, kr34_1, kr34_2, kr37_1, kr37_2, kr40_1, kr40_2, kr43_2, kr43_3, kr44_0, kr44_1, kr44_4, kr46_0, kr48_0, kr50_0, kr52_0, kr54_0, kr56_0, kr60_3, kr60_4, kr63_0, kr63_1, kr63_2, kr66_0, kr66_1, kr66_2, kr66_3, kr66_4, kr67_0, kr70_0, kr70_1, kr70_2, kr72_1, kr72_2, kr72_3, kr72_4, kr72_5, kr72_6, kr72_7, kl2, kl3, kl4, kl5, kl6, kl8, kl9, kl10, kl11, kl12, kl13, kl14, kl15, kl17, kl18, kl20, kl21, kl23, kl24, kl26, kl27, kl28, kl29, kl30, kl31, kl32, kl33, kl35, kl36, kl38, kl39, kl41, kl42, kl45, kl47, kl49, kl51, kl53, kl55, kl57, kl58, kl59, kl61, kl62, kl64, kl65, kl68, kl69, kl71, kl73, kl74, kl75, kl76, h.2.2.2.2.1.1, kC_pkF _ hw]
      · unfold f_X12_who
        simp (disch := omega) only [↓reduceIte, kz_lt, Option.bind_some, kz_ix, kz_leT, kz_leF, kz_ltT, kz_ltF, kz_lt0, kz_0le, kz_0ltT, kz_le0F, kz_eq0F, kz_10, kz_00, kz_11, kz_01, nI_clamp, nI_1, nI_add, pk_mul, kc0, kc1, kc2, kc3, kc4, kc5, kc6, kc7, kc8, kc9, kc10, kx0, kx1, kx2, kx3, kx4, kx5, kx6, kx7, kx8, kr77_1, kr77_3, kr77_5, kr77_6, kr77_7, kr77_8, kr77_9, kr77_21, kr77_22, kr77_23, kr77_24, kr77_25, kr77_26, kr77_27, kr77_28, kr77_29, kr77_30, kr77_31, kr77_32, kr77_33, kr77_34, kr77_35, kr77_36, kr77_38, kr77_39, kr77_40, kr77_41, kr77_42, kr77_44, kr77_45, kr77_46, kr77_48, kr77_49, kr77_51, kr77_52, kr77_55, kr77_57, kr77_58, kr77_59, kr77_61, kr77_62, kr77_63, kr77_64, kr77_65, kl78, kl79, kl80, kl81, kl82, kl83, kl84, kl85, kl86, kl87, kl88, kl89, kl90, kl91, kl92, kl93, kl94, kl95, kl96, kl97, kl98, kl99, kl100, kl101, kl102, kl103, kl104, kl105, kl106, kl107, kl108, kl109, kl110, kl111, kl112, kl113, kl114, kl115, kl116, kl117, kl118, kl119, kl120, kl121, h.2.2.2.2.1.1, kM_in (show ka_w A < 2 ^ 30 - 1 by omega) hkk, kM_pkF _ hw]
  · refine kp_qq.st (-1) (fun σ h => ?_) (fun σ h => ?_)
    · unfold f_X11_who
      rw [kr0_9, h.2.2.2.2.1.1]
      rcases kp_out (by omega) hx with h1 | ⟨h1, h2⟩
      · rw [if_pos h1]
      · rw [if_neg h1, if_pos h2]
    · unfold f_X12_who
      simp (disch := omega) only [↓reduceIte, kz_lt, Option.bind_some, kz_ix, kz_leT, kz_leF, kz_ltT, kz_ltF, kz_lt0, kz_0le, kz_0ltT, kz_le0F, kz_eq0F, kz_10, kz_00, kz_11, kz_01, nI_clamp, nI_1, nI_add, pk_mul, kc0, kc1, kc2, kc3, kc4, kc5, kc6, kc7, kc8, kc9, kc10, kx0, kx1, kx2, kx3, kx4, kx5, kx6, kx7, kx8, kr77_1, kr77_3, kr77_5, kr77_6, kr77_7, kr77_8, kr77_9, kr77_21, kr77_22, kr77_23, kr77_24, kr77_25, kr77_26, kr77_27, kr77_28, kr77_29, kr77_30, kr77_31, kr77_32, kr77_33, kr77_34, kr77_35, kr77_36, kr77_38, kr77_39, kr77_40, kr77_41, kr77_42, kr77_44, kr77_45, kr77_46, kr77_48, kr77_49, kr77_51, kr77_52, kr77_55, kr77_57, kr77_58, kr77_59, kr77_61, kr77_62, kr77_63, kr77_64, kr77_65, kl78, kl79, kl80, kl81, kl82, kl83, kl84, kl85, kl86, kl87, kl88, kl89, kl90, kl91, kl92, kl93, kl94, kl95, kl96, kl97, kl98, kl99, kl100, kl101, kl102, kl103, kl104, kl105, kl106, kl107, kl108, kl109, kl110, kl111, kl112, kl113, kl114, kl115, kl116, kl117, kl118, kl119, kl120, kl121, h.2.2.2.2.1.1, kM_inF (show ka_w A < 2 ^ 30 - 1 by omega) hx]
