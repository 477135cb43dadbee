/-! ===== pure: ask ===== -/
def kp_cw (A : kp_A) (L : Int32) (d p : Nat) (w : Int32) (n : Nat) : Nat := kp_ct (fun c => decide (((L >>> (nI c &&& 31)) &&& 1) = 1) && decide (kp_wy A d p c = w)) n
theorem kp_cw_s (A : kp_A) (L : Int32) (d p : Nat) (w : Int32) (n : Nat) : kp_cw A L d p w (n + 1) = if ((L >>> (nI n &&& 31)) &&& 1) = 1 ∧ kp_wy A d p n = w then kp_cw A L d p w n + 1 else kp_cw A L d p w n := by
  unfold kp_cw
  rw [kp_ct_s]
  by_cases h : ((L >>> (nI n &&& 31)) &&& 1) = 1 ∧ kp_wy A d p n = w
  · rw [if_pos h, if_pos (by rw [Bool.and_eq_true]; exact ⟨decide_eq_true h.1, decide_eq_true h.2⟩)]
  · rw [if_neg h, if_neg (by rw [Bool.and_eq_true]; exact fun e => h ⟨of_decide_eq_true e.1, of_decide_eq_true e.2⟩)]
theorem kp_cw_le (A : kp_A) (L : Int32) (d p : Nat) (w : Int32) (n : Nat) : kp_cw A L d p w n ≤ n := kp_ct_le _ n
def kp_wo (A : kp_A) (L : Int32) (d p : Nat) : Nat := max (kp_cw A L d p (-1) (kt_nc (ka_T A))) (max (kp_cw A L d p 0 (kt_nc (ka_T A))) (kp_cw A L d p 1 (kt_nc (ka_T A))))
theorem kp_maxI {a b : Nat} (ha : a < 2 ^ 31) (hb : b < 2 ^ 31) : (if nI a < nI b then nI b else nI a) = nI (max a b) := by
  by_cases h : a < b
  · rw [if_pos (nI_lt h hb), Nat.max_eq_right (Nat.le_of_lt h)]
  · rw [if_neg (nI_nlt (by omega) ha), Nat.max_eq_left (by omega)]
theorem kC_ml {A : kp_A} {k : Nat} (hA : kp_Aok A k) {σ : kf_St} (h : kp_Cr A σ) {d p : Nat} (hd : d < kt_nd (ka_T A)) (hp : p < 4) (L : Int32) : ∃ τ', f_X9_mostLeft 72 (nI d) (nI p) L σ = some (nI (kp_wo A L d p), τ') ∧ kp_ch kp_xC σ τ' := by
  have h5 := hA.1.1.2.1
  unfold f_X9_mostLeft
  simp (disch := omega) only [↓reduceIte, kz_lt, Option.bind_some, kz_ix, kz_leT, kz_leF, kz_ltT, kz_ltF, kz_lt0, kz_0le, kz_0ltT, kz_le0F, kz_eq0F, kz_10, kz_00, kz_11, kz_01, nI_clamp, nI_1, nI_add, pk_mul, kc0, kc1, kc2, kc3, kc4, kc5, kc6, kc7, kc8, kc9, kc10, kx0, kx1, kx2, kx3, kx4, kx5, kx6, kx7, kx8, kr0_0, kr0_1, kr0_2, kr0_3, kr0_4, kr0_5, kr0_6, kr0_7, kr0_8, kr0_9, kr1_1, kr1_2, kr1_3, kr1_4, kr1_5, kr7_6, kr7_7, kr7_8, kr7_9, kr7_10, kr7_11, kr7_12, kr7_13, kr7_14, kr7_15, kr7_16, kr16_1, kr16_2, kr19_1, kr19_2, kr22_1, kr22_2, kr25_6, kr25_7, kr25_8, kr25_9, kr25_10, kr25_11, kr25_12, kr25_13, kr25_14, kr25_15, kr25_16, kr34_1, kr34_2, kr37_1, kr37_2, kr40_1, kr40_2, kr43_2, kr43_3, kr44_0, kr44_1, kr44_4, kr46_0, kr48_0, kr50_0, kr52_0, kr54_0, kr56_0, kr60_3, kr60_4, kr63_0, kr63_1, kr63_2, kr66_0, kr66_1, kr66_2, kr66_3, kr66_4, kr67_0, kr70_0, kr70_1, kr70_2, kr72_1, kr72_2, kr72_3, kr72_4, kr72_5, kr72_6, kr72_7, kl2, kl3, kl4, kl5, kl6, kl8, kl9, kl10, kl11, kl12, kl13, kl14, kl15, kl17, kl18, kl20, kl21, kl23, kl24, kl26, kl27, kl28, kl29, kl30, kl31, kl32, kl33, kl35, kl36, kl38, kl39, kl41, kl42, kl45, kl47, kl49, kl51, kl53, kl55, kl57, kl58, kl59, kl61, kl62, kl64, kl65, kl68, kl69, kl71, kl73, kl74, kl75, kl76]
  refine kp_run (n := kt_nc (ka_T A)) (fun i f => ∀ τ, kp_ch (fun r => r = 64 ∨ r = 18 ∨ r = 76) σ τ → τ.1 76 0 = nI (kp_cw A L d p (-1) i) → τ.1 76 1 = nI (kp_cw A L d p 0 i) → τ.1 76 2 = nI (kp_cw A L d p 1 i) → ∃ τ', f_X9_mostLeft_24 f 72 (nI d) (nI p) L (nI i) τ = some (nI (kp_wo A L d p), τ') ∧ kp_ch kp_xC σ τ') (by omega) (fun f τ cc t0 t1 t2 => ?_) (fun i hi f ih τ cc t0 t1 t2 => ?_) _ (kp_ch.wi (S := fun r => r = 64 ∨ r = 18 ∨ r = 76) (kp_ch.wi (S := fun r => r = 64 ∨ r = 18 ∨ r = 76) (kp_ch.wi (S := fun r => r = 64 ∨ r = 18 ∨ r = 76) kp_ch.rf (by decide)) (by decide)) (by decide)) rfl rfl rfl
  · have h' := h.ch hA (cc.mono (fun r e => by unfold kp_xC; omega))
    refine ⟨τ, ?_, cc.mono (fun r e => by unfold kp_xC; omega)⟩
    show f_X9_mostLeft_24_s _ 72 (nI d) (nI p) L (nI (kt_nc (ka_T A))) τ = _
    unfold f_X9_mostLeft_24_s
    have q0 := kp_cw_le A L d p (-1) (kt_nc (ka_T A))
    have q1 := kp_cw_le A L d p 0 (kt_nc (ka_T A))
    have q2 := kp_cw_le A L d p 1 (kt_nc (ka_T A))
    simp (disch := omega) only [↓reduceIte, kz_lt, Option.bind_some, kz_ix, kz_leT, kz_leF, kz_ltT, kz_ltF, kz_lt0, kz_0le, kz_0ltT, kz_le0F, kz_eq0F, kz_10, kz_00, kz_11, kz_01, nI_clamp, nI_1, nI_add, pk_mul, kc0, kc1, kc2, kc3, kc4, kc5, kc6, kc7, kc8, kc9, kc10, kx0, kx1, kx2, kx3, kx4, kx5, kx6, kx7, kx8, kr0_0, kr0_1, kr0_2, kr0_3, kr0_4, kr0_5, kr0_6, kr0_7, kr0_8, kr0_9, kr1_1, kr1_2, kr1_3, kr1_4, kr1_5, kr7_6, kr7_7, kr7_8, kr7_9, kr7_10, kr7_11, kr7_12, kr7_13, kr7_14, kr7_15, kr7_16, kr16_1, kr16_2, kr19_1, kr19_2, kr22_1, kr22_2, kr25_6, kr25_7, kr25_8, kr25_9, kr25_10, kr25_11, kr25_12, kr25_13, kr25_14, kr25_15, kr25_16, kr34_1, kr34_2, kr37_1, kr37_2, kr40_1, kr40_2, kr43_2, kr43_3, kr44_0, kr44_1, kr44_4, kr46_0, kr48_0, kr50_0, kr52_0, kr54_0, kr56_0, kr60_3, kr60_4, kr63_0, kr63_1, kr63_2, kr66_0, kr66_1, kr66_2, kr66_3, kr66_4, kr67_0, kr70_0, kr70_1, kr70_2, kr72_1, kr72_2, kr72_3, kr72_4, kr72_5, kr72_6, kr72_7, kl2, kl3, kl4, kl5, kl6, kl8, kl9, kl10, kl11, kl12, kl13, kl14, kl15, kl17, kl18, kl20, kl21, kl23, kl24, kl26, kl27, kl28, kl29, kl30, kl31, kl32, kl33, kl35, kl36, kl38, kl39, kl41, kl42, kl45, kl47, kl49, kl51, kl53, kl55, kl57, kl58, kl59, kl61, kl62, kl64, kl65, kl68, kl69, kl71, kl73, kl74, kl75, kl76, h'.1.1.2.1, t0, t1, t2]
    rw [kp_maxI (by omega) (by omega), kp_maxI (by omega) (by omega)]
    rfl
  · have h' := h.ch hA (cc.mono (fun r e => by unfold kp_xC; omega))
    show ∃ τ', f_X9_mostLeft_24_s _ 72 (nI d) (nI p) L (nI i) τ = some (_, τ') ∧ _
    unfold f_X9_mostLeft_24_s f_X9_mostLeft_65
    obtain ⟨τ1, a1, a2⟩ := kC_way hA h' hd hi hp
    have u0 := a2.1 76 (by decide)
    by_cases b : ((L >>> (nI i &&& 31)) &&& 1) = 1
    · rw [if_pos b]
      rcases kp_wy_3 A d p i with e | e | e
      · rw [e] at a1
        have z : (-1 : Int32) + 1 = 0 := by decide
        simp (disch := omega) only [↓reduceIte, kz_lt, Option.bind_some, kz_ix, kz_leT, kz_leF, kz_ltT, kz_ltF, kz_lt0, kz_0le, kz_0ltT, kz_le0F, kz_eq0F, kz_10, kz_00, kz_11, kz_01, nI_clamp, nI_1, nI_add, pk_mul, kc0, kc1, kc2, kc3, kc4, kc5, kc6, kc7, kc8, kc9, kc10, kx0, kx1, kx2, kx3, kx4, kx5, kx6, kx7, kx8, kr0_0, kr0_1, kr0_2, kr0_3, kr0_4, kr0_5, kr0_6, kr0_7, kr0_8, kr0_9, kr1_1, kr1_2, kr1_3, kr1_4, kr1_5, kr7_6, kr7_7, kr7_8, kr7_9, kr7_10, kr7_11, kr7_12, kr7_13, kr7_14, kr7_15, kr7_16, kr16_1, kr16_2, kr19_1, kr19_2, kr22_1, kr22_2, kr25_6, kr25_7, kr25_8, kr25_9, kr25_10, kr25_11, kr25_12, kr25_13, kr25_14, kr25_15, kr25_16, kr34_1, kr34_2, kr37_1, kr37_2, kr40_1, kr40_2, kr43_2, kr43_3, kr44_0, kr44_1, kr44_4, kr46_0, kr48_0, kr50_0, kr52_0, kr54_0, kr56_0, kr60_3, kr60_4, kr63_0, kr63_1, kr63_2, kr66_0, kr66_1, kr66_2, kr66_3, kr66_4, kr67_0, kr70_0, kr70_1, kr70_2, kr72_1, kr72_2, kr72_3, kr72_4, kr72_5, kr72_6, kr72_7, kl2, kl3, kl4, kl5, kl6, kl8, kl9, kl10, kl11, kl12, kl13, kl14, kl15, kl17, kl18, kl20, kl21, kl23, kl24, kl26, kl27, kl28, kl29, kl30, kl31, kl32, kl33, kl35, kl36, kl38, kl39, kl41, kl42, kl45, kl47, kl49, kl51, kl53, kl55, kl57, kl58, kl59, kl61, kl62, kl64, kl65, kl68, kl69, kl71, kl73, kl74, kl75, kl76, h'.1.1.2.1, a1, z, u0, t0]
        refine ih _ (kp_ch.wi (S := fun r => r = 64 ∨ r = 18 ∨ r = 76) (cc.tr (a2.mono (fun r e => by omega))) (by decide)) ?_ ?_ ?_
        · rw [kp_wi_same, kp_cw_s, if_pos ⟨b, e⟩]
        · rw [kp_wi_col (by decide), u0, t1, kp_cw_s, if_neg (fun x => by have := e.symm.trans x.2; exact absurd this (by decide))]
        · rw [kp_wi_col (by decide), u0, t2, kp_cw_s, if_neg (fun x => by have := e.symm.trans x.2; exact absurd this (by decide))]
      · rw [e] at a1
        have z : (0 : Int32) + 1 = 1 := by decide
        simp (disch := omega) only [↓reduceIte, kz_lt, Option.bind_some, kz_ix, kz_leT, kz_leF, kz_ltT, kz_ltF, kz_lt0, kz_0le, kz_0ltT, kz_le0F, kz_eq0F, kz_10, kz_00, kz_11, kz_01, nI_clamp, nI_1, nI_add, pk_mul, kc0, kc1, kc2, kc3, kc4, kc5, kc6, kc7, kc8, kc9, kc10, kx0, kx1, kx2, kx3, kx4, kx5, kx6, kx7, kx8, kr0_0, kr0_1, kr0_2, kr0_3, kr0_4, kr0_5, kr0_6, kr0_7, kr0_8, kr0_9, kr1_1, kr1_2, kr1_3, kr1_4, kr1_5, kr7_6, kr7_7, kr7_8, kr7_9, kr7_10, kr7_11, kr7_12, kr7_13, kr7_14, kr7_15, kr7_16, kr16_1, kr16_2, kr19_1, kr19_2, kr22_1, kr22_2, kr25_6, kr25_7, kr25_8, kr25_9, kr25_10, kr25_11, kr25_12, kr25_13, kr25_14, kr25_15, kr25_16, kr34_1, kr34_2, kr37_1, kr37_2, kr40_1, kr40_2, kr43_2, kr43_3, kr44_0, kr44_1, kr44_4, kr46_0, kr48_0, kr50_0, kr52_0, kr54_0, kr56_0, kr60_3, kr60_4, kr63_0, kr63_1, kr63_2, kr66_0, kr66_1, kr66_2, kr66_3, kr66_4, kr67_0, kr70_0, kr70_1, kr70_2, kr72_1, kr72_2, kr72_3, kr72_4, kr72_5, kr72_6, kr72_7, kl2, kl3, kl4, kl5, kl6, kl8, kl9, kl10, kl11, kl12, kl13, kl14, kl15, kl17, kl18, kl20, kl21, kl23, kl24, kl26, kl27, kl28, kl29, kl30, kl31, kl32, kl33, kl35, kl36, kl38, kl39, kl41, kl42, kl45, kl47, kl49, kl51, kl53, kl55, kl57, kl58, kl59, kl61, kl62, kl64, kl65, kl68, kl69, kl71, kl73, kl74, kl75, kl76, h'.1.1.2.1, a1, z, u0, t1]
        refine ih _ (kp_ch.wi (S := fun r => r = 64 ∨ r = 18 ∨ r = 76) (cc.tr (a2.mono (fun r e => by omega))) (by decide)) ?_ ?_ ?_
        · rw [kp_wi_col (by decide), u0, t0, kp_cw_s, if_neg (fun x => by have := e.symm.trans x.2; exact absurd this (by decide))]
        · rw [kp_wi_same, kp_cw_s, if_pos ⟨b, e⟩]
        · rw [kp_wi_col (by decide), u0, t2, kp_cw_s, if_neg (fun x => by have := e.symm.trans x.2; exact absurd this (by decide))]
      · rw [e] at a1
        have z : (1 : Int32) + 1 = 2 := by decide
        simp (disch := omega) only [↓reduceIte, kz_lt, Option.bind_some, kz_ix, kz_leT, kz_leF, kz_ltT, kz_ltF, kz_lt0, kz_0le, kz_0ltT, kz_le0F, kz_eq0F, kz_10, kz_00, kz_11, kz_01, nI_clamp, nI_1, nI_add, pk_mul, kc0, kc1, kc2, kc3, kc4, kc5, kc6, kc7, kc8, kc9, kc10, kx0, kx1, kx2, kx3, kx4, kx5, kx6, kx7, kx8, kr0_0, kr0_1, kr0_2, kr0_3, kr0_4, kr0_5, kr0_6, kr0_7, kr0_8, kr0_9, kr1_1, kr1_2, kr1_3, kr1_4, kr1_5, kr7_6, kr7_7, kr7_8, kr7_9, kr7_10, kr7_11, kr7_12, kr7_13, kr7_14, kr7_15, kr7_16, kr16_1, kr16_2, kr19_1, kr19_2, kr22_1, kr22_2, kr25_6, kr25_7, kr25_8, kr25_9, kr25_10, kr25_11, kr25_12, kr25_13, kr25_14, kr25_15, kr25_16, kr34_1, kr34_2, kr37_1, kr37_2, kr40_1, kr40_2, kr43_2, kr43_3, kr44_0, kr44_1, kr44_4, kr46_0, kr48_0, kr50_0, kr52_0, kr54_0, kr56_0, kr60_3, kr60_4, kr63_0, kr63_1, kr63_2, kr66_0, kr66_1, kr66_2, kr66_3, kr66_4, kr67_0, kr70_0, kr70_1, kr70_2, kr72_1, kr72_2, kr72_3, kr72_4, kr72_5, kr72_6, kr72_7, kl2, kl3, kl4, kl5, kl6, kl8, kl9, kl10, kl11, kl12, kl13, kl14, kl15, kl17, kl18, kl20, kl21, kl23, kl24, kl26, kl27, kl28, kl29, kl30, kl31, kl32, kl33, kl35, kl36, kl38, kl39, kl41, kl42, kl45, kl47, kl49, kl51, kl53, kl55, kl57, kl58, kl59, kl61, kl62, kl64, kl65, kl68, kl69, kl71, kl73, kl74, kl75, kl76, h'.1.1.2.1, a1, z, u0, t2]
        refine ih _ (kp_ch.wi (S := fun r => r = 64 ∨ r = 18 ∨ r = 76) (cc.tr (a2.mono (fun r e => by omega))) (by decide)) ?_ ?_ ?_
        · rw [kp_wi_col (by decide), u0, t0, kp_cw_s, if_neg (fun x => by have := e.symm.trans x.2; exact absurd this (by decide))]
        · rw [kp_wi_col (by decide), u0, t1, kp_cw_s, if_neg (fun x => by have := e.symm.trans x.2; exact absurd this (by decide))]
        · rw [kp_wi_same, kp_cw_s, if_pos ⟨b, e⟩]
    · rw [if_neg b]
      simp (disch := omega) only [↓reduceIte, kz_lt, Option.bind_some, kz_ix, kz_leT, kz_leF, kz_ltT, kz_ltF, kz_lt0, kz_0le, kz_0ltT, kz_le0F, kz_eq0F, kz_10, kz_00, kz_11, kz_01, nI_clamp, nI_1, nI_add, pk_mul, kc0, kc1, kc2, kc3, kc4, kc5, kc6, kc7, kc8, kc9, kc10, kx0, kx1, kx2, kx3, kx4, kx5, kx6, kx7, kx8, kr0_0, kr0_1, kr0_2, kr0_3, kr0_4, kr0_5, kr0_6, kr0_7, kr0_8, kr0_9, kr1_1, kr1_2, kr1_3, kr1_4, kr1_5, kr7_6, kr7_7, kr7_8, kr7_9, kr7_10, kr7_11, kr7_12, kr7_13, kr7_14, kr7_15, kr7_16, kr16_1, kr16_2, kr19_1, kr19_2, kr22_1, kr22_2, kr25_6, kr25_7, kr25_8, kr25_9, kr25_10, kr25_11, kr25_12, kr25_13, kr25_14, kr25_15, kr25_16, kr34_1, kr34_2, kr37_1, kr37_2, kr40_1, kr40_2, kr43_2, kr43_3, kr44_0, kr44_1, kr44_4, kr46_0, kr48_0, kr50_0, kr52_0, kr54_0, kr56_0, kr60_3, kr60_4, kr63_0, kr63_1, kr63_2, kr66_0, kr66_1, kr66_2, kr66_3, kr66_4, kr67_0, kr70_0, kr70_1, kr70_2, kr72_1, kr72_2, kr72_3, kr72_4, kr72_5, kr72_6, kr72_7, kl2, kl3, kl4, kl5, kl6, kl8, kl9, kl10, kl11, kl12, kl13, kl14, kl15, kl17, kl18, kl20, kl21, kl23, kl24, kl26, kl27, kl28, kl29, kl30, kl31, kl32, kl33, kl35, kl36, kl38, kl39, kl41, kl42, kl45, kl47, kl49, kl51, kl53, kl55, kl57, kl58, kl59, kl61, kl62, kl64, kl65, kl68, kl69, kl71, kl73, kl74, kl75, kl76, h'.1.1.2.1]
      refine ih τ cc ?_ ?_ ?_
      · rw [kp_cw_s, if_neg (fun x => b x.1)]; exact t0
      · rw [kp_cw_s, if_neg (fun x => b x.1)]; exact t1
      · rw [kp_cw_s, if_neg (fun x => b x.1)]; exact t2
/-! the reference -/
theorem kM_w18 {A : kp_A} {k lv : Nat} (hA : kp_Aok A k) {σ : kf_St} (h : kp_MT (ka_T A) lv σ) (hS : kp_fS (σ.1 112) (ka_S A)) {d p : Nat} (hd : d < kt_nd (ka_T A)) (hp : p < 4) (L w v4 : Int32) (rec : Nat → Int32 → Int32 → Int32 → Int32 → Int32 → kf_St → Option (Int32 × kf_St)) : ∀ τ0, kp_chM (fun r => r = 109 ∨ r = 110) (fun j => j = 50) σ τ0 → ∃ τ', f_X12_worstOf_18 rec kf_F 77 L (nI d) (nI p) v4 w 0 0 τ0 = rec 77 L (nI d) (nI p) (if nI (kp_cw A L d p w (kt_nc (ka_T A))) ≤ v4 then v4 else nI (kp_cw A L d p w (kt_nc (ka_T A)))) (w + 1) τ' ∧ kp_chM (fun r => r = 109 ∨ r = 110) (fun j => j = 50) σ τ' := by
  have h5 := hA.1.1.2.1
  have hl := h.1
  intro τ0 c0
  refine kp_run (n := kt_nc (ka_T A)) (fun i f => ∀ τ, kp_chM (fun r => r = 109 ∨ r = 110) (fun j => j = 50) σ τ → ∃ τ', f_X12_worstOf_18 rec f 77 L (nI d) (nI p) v4 w (nI (kp_cw A L d p w i)) (nI i) τ = rec 77 L (nI d) (nI p) (if nI (kp_cw A L d p w (kt_nc (ka_T A))) ≤ v4 then v4 else nI (kp_cw A L d p w (kt_nc (ka_T A)))) (w + 1) τ' ∧ kp_chM (fun r => r = 109 ∨ r = 110) (fun j => j = 50) σ τ') (by omega) (fun f τ cc => ?_) (fun i hi f ih τ cc => ?_) τ0 c0
  · have h' := h.chM cc (fun r e => by omega) (by omega)
    refine ⟨τ, ?_, cc⟩
    show f_X12_worstOf_18_s _ _ 77 L (nI d) (nI p) v4 w _ (nI (kt_nc (ka_T A))) τ = _
    unfold f_X12_worstOf_18_s f_X12_worstOf_75
    simp (disch := omega) only [↓reduceIte, kz_lt, Option.bind_some, kz_ix, kz_leT, kz_leF, kz_ltT, kz_ltF, kz_lt0, kz_0le, kz_0ltT, kz_le0F, kz_eq0F, kz_10, kz_00, kz_11, kz_01, nI_clamp, nI_1, nI_add, pk_mul, kc0, kc1, kc2, kc3, kc4, kc5, kc6, kc7, kc8, kc9, kc10, kx0, kx1, kx2, kx3, kx4, kx5, kx6, kx7, kx8, kr77_1, kr77_3, kr77_5, kr77_6, kr77_7, kr77_8, kr77_9, kr77_21, kr77_22, kr77_23, kr77_24, kr77_25, kr77_26, kr77_27, kr77_28, kr77_29, kr77_30, kr77_31, kr77_32, kr77_33, kr77_34, kr77_35, kr77_36, kr77_38, kr77_39, kr77_40, kr77_41, kr77_42, kr77_44, kr77_45, kr77_46, kr77_48, kr77_49, kr77_51, kr77_52, kr77_55, kr77_57, kr77_58, kr77_59, kr77_61, kr77_62, kr77_63, kr77_64, kr77_65, kl78, kl79, kl80, kl81, kl82, kl83, kl84, kl85, kl86, kl87, kl88, kl89, kl90, kl91, kl92, kl93, kl94, kl95, kl96, kl97, kl98, kl99, kl100, kl101, kl102, kl103, kl104, kl105, kl106, kl107, kl108, kl109, kl110, kl111, kl112, kl113, kl114, kl115, kl116, kl117, kl118, kl119, kl120, kl121, h'.2.1, h'.2.2.1.2.1]
    by_cases b : nI (kp_cw A L d p w (kt_nc (ka_T A))) ≤ v4
    · rw [if_pos b, if_pos b]
    · rw [if_neg b, if_neg b]
  · have h' := h.chM cc (fun r e => by omega) (by omega)
    have hs' : kp_fS (τ.1 112) (ka_S A) := by rw [cc.1 112 (by decide) (by decide)]; exact hS
    obtain ⟨τ1, a1, a2⟩ := kM_way hA h' hs' hd hi hp
    show ∃ τ', f_X12_worstOf_18_s _ _ 77 L (nI d) (nI p) v4 w _ (nI i) τ = _ ∧ _
    unfold f_X12_worstOf_18_s f_X12_worstOf_58
    simp (disch := omega) only [↓reduceIte, kz_lt, Option.bind_some, kz_ix, kz_leT, kz_leF, kz_ltT, kz_ltF, kz_lt0, kz_0le, kz_0ltT, kz_le0F, kz_eq0F, kz_10, kz_00, kz_11, kz_01, nI_clamp, nI_1, nI_add, pk_mul, kc0, kc1, kc2, kc3, kc4, kc5, kc6, kc7, kc8, kc9, kc10, kx0, kx1, kx2, kx3, kx4, kx5, kx6, kx7, kx8, kr77_1, kr77_3, kr77_5, kr77_6, kr77_7, kr77_8, kr77_9, kr77_21, kr77_22, kr77_23, kr77_24, kr77_25, kr77_26, kr77_27, kr77_28, kr77_29, kr77_30, kr77_31, kr77_32, kr77_33, kr77_34, kr77_35, kr77_36, kr77_38, kr77_39, kr77_40, kr77_41, kr77_42, kr77_44, kr77_45, kr77_46, kr77_48, kr77_49, kr77_51, kr77_52, kr77_55, kr77_57, kr77_58, kr77_59, kr77_61, kr77_62, kr77_63, kr77_64, kr77_65, kl78, kl79, kl80, kl81, kl82, kl83, kl84, kl85, kl86, kl87, kl88, kl89, kl90, kl91, kl92, kl93, kl94, kl95, kl96, kl97, kl98, kl99, kl100, kl101, kl102, kl103, kl104, kl105, kl106, kl107, kl108, kl109, kl110, kl111, kl112, kl113, kl114, kl115, kl116, kl117, kl118, kl119, kl120, kl121, h'.2.1, h'.2.2.1.2.1, a1]
    have ih1 := ih τ1 (cc.tr a2)
    have ih2 := ih τ cc
    rw [kp_cw_s] at ih1 ih2
    by_cases b : ((L >>> (nI i &&& 31)) &&& 1) = 1
    · rw [if_pos b]
      by_cases e : kp_wy A d p i = w
      · rw [if_pos ⟨b, e⟩] at ih1
        rw [if_pos e]; exact ih1
      · rw [if_neg (fun x => e x.2)] at ih1
        rw [if_neg e]; exact ih1
    · rw [if_neg (fun x => b x.1)] at ih2
      rw [if_neg b]; exact ih2
theorem kM_wo {A : kp_A} {k lv : Nat} (hA : kp_Aok A k) {σ : kf_St} (h : kp_MT (ka_T A) lv σ) (hS : kp_fS (σ.1 112) (ka_S A)) {d p : Nat} (hd : d < kt_nd (ka_T A)) (hp : p < 4) (L : Int32) : ∃ τ', f_X12_worstOf 77 L (nI d) (nI p) σ = some (nI (kp_wo A L d p), τ') ∧ kp_chM (fun r => r = 109 ∨ r = 110) (fun j => j = 50) σ τ' := by
  have h5 := hA.1.1.2.1
  have q0 := kp_cw_le A L d p (-1) (kt_nc (ka_T A))
  have q1 := kp_cw_le A L d p 0 (kt_nc (ka_T A))
  have q2 := kp_cw_le A L d p 1 (kt_nc (ka_T A))
  have mx : ∀ a b : Nat, a < 2 ^ 31 → b < 2 ^ 31 → (if nI a ≤ nI b then nI b else nI a) = nI (max b a) := by
    intro a b ha hb
    by_cases e : a ≤ b
    · rw [if_pos (nI_le e hb), Nat.max_eq_left e]
    · rw [if_neg (nI_ge (by omega) ha), Nat.max_eq_right (by omega)]
  obtain ⟨τ1, a1, a2⟩ := kM_w18 hA h hS hd hp L (-1) (nI 0) (f_X12_worstOf_6 999999) σ kp_chM.rf
  rw [mx _ _ (by omega) (by omega)] at a1
  obtain ⟨τ2, b1, b2⟩ := kM_w18 hA h hS hd hp L 0 (nI (max 0 (kp_cw A L d p (-1) (kt_nc (ka_T A))))) (f_X12_worstOf_6 999998) τ1 a2
  rw [mx _ _ (by omega) (by omega)] at b1
  obtain ⟨τ3, c1, c2⟩ := kM_w18 hA h hS hd hp L 1 (nI (max (max 0 (kp_cw A L d p (-1) (kt_nc (ka_T A)))) (kp_cw A L d p 0 (kt_nc (ka_T A))))) (f_X12_worstOf_6 999997) τ2 b2
  rw [mx _ _ (by omega) (by omega)] at c1
  refine ⟨τ3, ?_, c2⟩
  unfold f_X12_worstOf
  show f_X12_worstOf_6_s (f_X12_worstOf_6 999999) 77 L (nI d) (nI p) 0 (-1) σ = _
  unfold f_X12_worstOf_6_s
  rw [if_neg (by decide)]
  refine a1.trans ?_
  show f_X12_worstOf_6_s (f_X12_worstOf_6 999998) 77 L (nI d) (nI p) _ 0 τ1 = _
  unfold f_X12_worstOf_6_s
  rw [if_neg (by decide)]
  refine b1.trans ?_
  show f_X12_worstOf_6_s (f_X12_worstOf_6 999997) 77 L (nI d) (nI p) _ 1 τ2 = _
  unfold f_X12_worstOf_6_s
  rw [if_neg (by decide)]
  refine c1.trans ?_
  show f_X12_worstOf_6_s (f_X12_worstOf_6 999996) 77 L (nI d) (nI p) _ 2 τ3 = _
  unfold f_X12_worstOf_6_s kp_wo
  rw [if_pos (by decide)]
  rw [show max (max (max 0 (kp_cw A L d p (-1) (kt_nc (ka_T A)))) (kp_cw A L d p 0 (kt_nc (ka_T A)))) (kp_cw A L d p 1 (kt_nc (ka_T A))) = max (kp_cw A L d p (-1) (kt_nc (ka_T A))) (max (kp_cw A L d p 0 (kt_nc (ka_T A))) (kp_cw A L d p 1 (kt_nc (ka_T A)))) by omega]
/-! the best question -/
def kp_af (u : Nat → Nat) : Nat → Int32 × Int32
  | 0 => (-2, 6)
  | i + 1 => if (kp_af u i).2 ≤ nI (u i) then kp_af u i else (nI (10 * (i / 4) + i % 4), nI (u i))
theorem kp_af_s (u : Nat → Nat) (i : Nat) : kp_af u (i + 1) = if (kp_af u i).2 ≤ nI (u i) then kp_af u i else (nI (10 * (i / 4) + i % 4), nI (u i)) := rfl
theorem kp_af_inv (u : Nat → Nat) (hu : ∀ i, u i ≤ 5) : ∀ n, n < 1000 → 0 < n → ∃ a, a < 10000 ∧ (kp_af u n).1 = nI a
  | 0, _, h => absurd h (Nat.lt_irrefl 0)
  | n + 1, hn, _ => by
    rw [kp_af_s]
    by_cases h1 : (kp_af u n).2 ≤ nI (u n)
    · rw [if_pos h1]
      by_cases h0 : n = 0
      · subst h0
        have : (6 : Int32) ≤ nI (u 0) := h1
        have := hu 0
        exact absurd h1 (nI_ge (a := u 0) (b := 6) (by omega) (by decide))
      · exact kp_af_inv u hu n (by omega) (by omega)
    · rw [if_neg h1]; exact ⟨10 * (n / 4) + n % 4, by omega, rfl⟩
theorem kp_wo_le {A : kp_A} {k : Nat} (hA : kp_Aok A k) (L : Int32) (d p : Nat) : kp_wo A L d p ≤ 5 := by
  have h5 := hA.1.1.2.1
  have q0 := kp_cw_le A L d p (-1) (kt_nc (ka_T A))
  have q1 := kp_cw_le A L d p 0 (kt_nc (ka_T A))
  have q2 := kp_cw_le A L d p 1 (kt_nc (ka_T A))
  unfold kp_wo
  omega
theorem kC_q35 {A : kp_A} {k : Nat} (hA : kp_Aok A k) {σ : kf_St} (h : kp_Cr A σ) {d : Nat} (hd : d < kt_nd (ka_T A)) (L : Int32) {u : Nat → Nat} (hu : ∀ i, u i = kp_wo A L (i / 4) (i % 4)) (rec : Nat → Int32 → Int32 → Int32 → Int32 → kf_St → Option (Int32 × kf_St)) : ∀ τ0, kp_ch kp_xC σ τ0 → ∃ τ', f_X9_bestQuestion_35 rec kf_F 72 L (kp_af u (4 * d)).1 (kp_af u (4 * d)).2 (nI d) 0 τ0 = rec 72 L (kp_af u (4 * (d + 1))).1 (kp_af u (4 * (d + 1))).2 (nI (d + 1)) τ' ∧ kp_ch kp_xC σ τ' := by
  have h6 := hA.1.1.1
  intro τ0 c0
  refine kp_run (n := 4) (fun p f => ∀ τ, kp_ch kp_xC σ τ → ∃ τ', f_X9_bestQuestion_35 rec f 72 L (kp_af u (4 * d + p)).1 (kp_af u (4 * d + p)).2 (nI d) (nI p) τ = rec 72 L (kp_af u (4 * (d + 1))).1 (kp_af u (4 * (d + 1))).2 (nI (d + 1)) τ' ∧ kp_ch kp_xC σ τ') (by omega) (fun f τ cc => ?_) (fun p hp f ih τ cc => ?_) τ0 c0
  · refine ⟨τ, ?_, cc⟩
    show f_X9_bestQuestion_35_s _ _ 72 L _ _ (nI d) (nI 4) τ = _
    unfold f_X9_bestQuestion_35_s
    simp (disch := omega) only [↓reduceIte, kz_lt, Option.bind_some, kz_ix, kz_leT, kz_leF, kz_ltT, kz_ltF, kz_lt0, kz_0le, kz_0ltT, kz_le0F, kz_eq0F, kz_10, kz_00, kz_11, kz_01, nI_clamp, nI_1, nI_add, pk_mul, kn3, kn4, kn5, kn6, kn7, kn8, kn9, kn10, kn16, kn20, kn24, kn30, kn32, kn36, kn40, kn41, kn42, kn48, kn54, kn60, kn61, kn64, kn69, kn70, kn99, kn100, kc0, kc1, kc2, kc3, kc4, kc5, kc6, kc7, kc8, kc9, kc10, kx0, kx1, kx2, kx3, kx4, kx5, kx6, kx7, kx8, kr0_0, kr0_1, kr0_2, kr0_3, kr0_4, kr0_5, kr0_6, kr0_7, kr0_8, kr0_9, kr1_1, kr1_2, kr1_3, kr1_4, kr1_5, kr7_6, kr7_7, kr7_8, kr7_9, kr7_10, kr7_11, kr7_12, kr7_13, kr7_14, kr7_15, kr7_16, kr16_1, kr16_2, kr19_1, kr19_2, kr22_1, kr22_2, kr25_6, kr25_7, kr25_8, kr25_9, kr25_10, kr25_11, kr25_12, kr25_13, kr25_14, kr25_15, kr25_16, kr34_1, kr34_2, kr37_1, kr37_2, kr40_1, kr40_2, kr43_2, kr43_3, kr44_0, kr44_1, kr44_4, kr46_0, kr48_0, kr50_0, kr52_0, kr54_0, kr56_0, kr60_3, kr60_4, kr63_0, kr63_1, kr63_2, kr66_0, kr66_1, kr66_2, kr66_3, kr66_4, kr67_0, kr70_0, kr70_1, kr70_2, kr72_1, kr72_2, kr72_3, kr72_4, kr72_5, kr72_6, kr72_7, kl2, kl3, kl4, kl5, kl6, kl8, kl9, kl10, kl11, kl12, kl13, kl14, kl15, kl17, kl18, kl20, kl21, kl23, kl24, kl26, kl27, kl28, kl29, kl30, kl31, kl32, kl33, kl35, kl36, kl38, kl39, kl41, kl42, kl45, kl47, kl49, kl51, kl53, kl55, kl57, kl58, kl59, kl61, kl62, kl64, kl65, kl68, kl69, kl71, kl73, kl74, kl75, kl76]
    rfl
  · obtain ⟨τ1, a1, a2⟩ := kC_ml hA (h.ch hA cc) hd hp L
    have ih := ih τ1 (cc.tr a2)
    have q1 : (4 * d + p) / 4 = d := by omega
    have q2 : (4 * d + p) % 4 = p := by omega
    rw [show 4 * d + (p + 1) = 4 * d + p + 1 from rfl, kp_af_s, hu (4 * d + p), q1, q2] at ih
    show ∃ τ', f_X9_bestQuestion_35_s _ _ 72 L _ _ (nI d) (nI p) τ = _ ∧ _
    unfold f_X9_bestQuestion_35_s f_X9_bestQuestion_72
    simp (disch := omega) only [↓reduceIte, kz_lt, Option.bind_some, kz_ix, kz_leT, kz_leF, kz_ltT, kz_ltF, kz_lt0, kz_0le, kz_0ltT, kz_le0F, kz_eq0F, kz_10, kz_00, kz_11, kz_01, nI_clamp, nI_1, nI_add, pk_mul, kn3, kn4, kn5, kn6, kn7, kn8, kn9, kn10, kn16, kn20, kn24, kn30, kn32, kn36, kn40, kn41, kn42, kn48, kn54, kn60, kn61, kn64, kn69, kn70, kn99, kn100, kc0, kc1, kc2, kc3, kc4, kc5, kc6, kc7, kc8, kc9, kc10, kx0, kx1, kx2, kx3, kx4, kx5, kx6, kx7, kx8, kr0_0, kr0_1, kr0_2, kr0_3, kr0_4, kr0_5, kr0_6, kr0_7, kr0_8, kr0_9, kr1_1, kr1_2, kr1_3, kr1_4, kr1_5, kr7_6, kr7_7, kr7_8, kr7_9, kr7_10, kr7_11, kr7_12, kr7_13, kr7_14, kr7_15, kr7_16, kr16_1, kr16_2, kr19_1, kr19_2, kr22_1, kr22_2, kr25_6, kr25_7, kr25_8, kr25_9, kr25_10, kr25_11, kr25_12, kr25_13, kr25_14, kr25_15, kr25_16, kr34_1, kr34_2, kr37_1, kr37_2, kr40_1, kr40_2, kr43_2, kr43_3, kr44_0, kr44_1, kr44_4, kr46_0, kr48_0, kr50_0, kr52_0, kr54_0, kr56_0, kr60_3, kr60_4, kr63_0, kr63_1, kr63_2, kr66_0, kr66_1, kr66_2, kr66_3, kr66_4, kr67_0, kr70_0, kr70_1, kr70_2, kr72_1, kr72_2, kr72_3, kr72_4, kr72_5, kr72_6, kr72_7, kl2, kl3, kl4, kl5, kl6, kl8, kl9, kl10, kl11, kl12, kl13, kl14, kl15, kl17, kl18, kl20, kl21, kl23, kl24, kl26, kl27, kl28, kl29, kl30, kl31, kl32, kl33, kl35, kl36, kl38, kl39, kl41, kl42, kl45, kl47, kl49, kl51, kl53, kl55, kl57, kl58, kl59, kl61, kl62, kl64, kl65, kl68, kl69, kl71, kl73, kl74, kl75, kl76, a1]
    by_cases b : (kp_af u (4 * d + p)).2 ≤ nI (kp_wo A L d p)
    · rw [if_pos b] at ih ⊢; exact ih
    · rw [if_neg b] at ih ⊢; exact ih
theorem kq_ask {A : kp_A} {k : Nat} (hA : kp_Aok A k) (x : Int32) : kp_qq A (f_X11_ask 0 x) (f_X12_ask 77 x) := by
  have h20 := hA.2.2.2.2.1.1
  have h6 := hA.1.1.1
  by_cases hx : kp_is x (ka_w A + 1) = true
  · obtain ⟨kk, hkk, rfl⟩ := kp_is_t (by omega) hx
    have hkk : kk ≤ ka_w A := by omega
    generalize hL : kp_bs (fun c => kp_ft A c kk) (kt_nc (ka_T A)) = L
    refine ⟨if L = 0 then -2 else (kp_af (fun i => kp_wo A L (i / 4) (i % 4)) (4 * kt_nd (ka_T A))).1, ?_⟩
    generalize hg : (fun i => kp_wo A L (i / 4) (i % 4)) = u
    have hu : ∀ i, u i = kp_wo A L (i / 4) (i % 4) := fun i => by rw [← hg]
    have u5 : ∀ i, u i ≤ 5 := fun i => by rw [hu i]; exact kp_wo_le hA L _ _
    refine ⟨fun σ h => ?_, fun σ h => ?_⟩
    · obtain ⟨τ1, a1, a2⟩ := kC_sus hA hkk h
      rw [hL] at a1
      have a2' : kp_ch kp_xC σ τ1 := a2.mono (fun r e => by unfold kp_xC; omega)
      have main : ∃ τ', f_X9_bestQuestion_16 kf_F 72 L (-2) 6 0 τ1 = some (if L = 0 then -2 else (kp_af u (4 * kt_nd (ka_T A))).1, τ') ∧ kp_ch kp_xC σ τ' := by
        by_cases l0 : L = 0
        · refine ⟨τ1, ?_, a2'⟩
          rw [if_pos l0]
          show f_X9_bestQuestion_16_s _ 72 L (-2) 6 0 τ1 = _
          unfold f_X9_bestQuestion_16_s
          rw [if_pos l0]
          by_cases b : τ1.1 (kf_rf 72 1) 0 ≤ 0
          · rw [if_pos b]
          · rw [if_neg b]
        · rw [if_neg l0]
          refine kp_run (n := kt_nd (ka_T A)) (fun i f => ∀ τ, kp_ch kp_xC σ τ → ∃ τ', f_X9_bestQuestion_16 f 72 L (kp_af u (4 * i)).1 (kp_af u (4 * i)).2 (nI i) τ = some ((kp_af u (4 * kt_nd (ka_T A))).1, τ') ∧ kp_ch kp_xC σ τ') (by omega) (fun f τ cc => ?_) (fun i hi f ih τ cc => ?_) τ1 a2'
          · have h' := h.ch hA cc
            refine ⟨τ, ?_, cc⟩
            show f_X9_bestQuestion_16_s _ 72 L _ _ (nI (kt_nd (ka_T A))) τ = _
            unfold f_X9_bestQuestion_16_s
            simp (disch := omega) only [↓reduceIte, kz_lt, Option.bind_some, kz_ix, kz_leT, kz_leF, kz_ltT, kz_ltF, kz_lt0, kz_0le, kz_0ltT, kz_le0F, kz_eq0F, kz_10, kz_00, kz_11, kz_01, nI_clamp, nI_1, nI_add, pk_mul, kc0, kc1, kc2, kc3, kc4, kc5, kc6, kc7, kc8, kc9, kc10, kx0, kx1, kx2, kx3, kx4, kx5, kx6, kx7, kx8, kr0_0, kr0_1, kr0_2, kr0_3, kr0_4, kr0_5, kr0_6, kr0_7, kr0_8, kr0_9, kr1_1, kr1_2, kr1_3, kr1_4, kr1_5, kr7_6, kr7_7, kr7_8, kr7_9, kr7_10, kr7_11, kr7_12, kr7_13, kr7_14, kr7_15, kr7_16, kr16_1, kr16_2, kr19_1, kr19_2, kr22_1, kr22_2, kr25_6, kr25_7, kr25_8, kr25_9, kr25_10, kr25_11, kr25_12, kr25_13, kr25_14, kr25_15, kr25_16, kr34_1, kr34_2, kr37_1, kr37_2, kr40_1, kr40_2, kr43_2, kr43_3, kr44_0, kr44_1, kr44_4, kr46_0, kr48_0, kr50_0, kr52_0, kr54_0, kr56_0, kr60_3, kr60_4, kr63_0, kr63_1, kr63_2, kr66_0, kr66_1, kr66_2, kr66_3, kr66_4, kr67_0, kr70_0, kr70_1, kr70_2, kr72_1, kr72_2, kr72_3, kr72_4, kr72_5, kr72_6, kr72_7, kl2, kl3, kl4, kl5, kl6, kl8, kl9, kl10, kl11, kl12, kl13, kl14, kl15, kl17, kl18, kl20, kl21, kl23, kl24, kl26, kl27, kl28, kl29, kl30, kl31, kl32, kl33, kl35, kl36, kl38, kl39, kl41, kl42, kl45, kl47, kl49, kl51, kl53, kl55, kl57, kl58, kl59, kl61, kl62, kl64, kl65, kl68, kl69, kl71, kl73, kl74, kl75, kl76, h'.1.1.1]
          · have h' := h.ch hA cc
            obtain ⟨τ2, b1, b2⟩ := kC_q35 hA h hi L hu (f_X9_bestQuestion_16 f) τ cc
            obtain ⟨τ3, c1, c2⟩ := ih τ2 b2
            refine ⟨τ3, ?_, c2⟩
            show f_X9_bestQuestion_16_s _ 72 L _ _ (nI i) τ = _
            unfold f_X9_bestQuestion_16_s
            rw [if_neg l0]
            simp (disch := omega) only [↓reduceIte, kz_lt, Option.bind_some, kz_ix, kz_leT, kz_leF, kz_ltT, kz_ltF, kz_lt0, kz_0le, kz_0ltT, kz_le0F, kz_eq0F, kz_10, kz_00, kz_11, kz_01, nI_clamp, nI_1, nI_add, pk_mul, kc0, kc1, kc2, kc3, kc4, kc5, kc6, kc7, kc8, kc9, kc10, kx0, kx1, kx2, kx3, kx4, kx5, kx6, kx7, kx8, kr0_0, kr0_1, kr0_2, kr0_3, kr0_4, kr0_5, kr0_6, kr0_7, kr0_8, kr0_9, kr1_1, kr1_2, kr1_3, kr1_4, kr1_5, kr7_6, kr7_7, kr7_8, kr7_9, kr7_10, kr7_11, kr7_12, kr7_13, kr7_14, kr7_15, kr7_16, kr16_1, kr16_2, kr19_1, kr19_2, kr22_1, kr22_2, kr25_6, kr25_7, kr25_8, kr25_9, kr25_10, kr25_11, kr25_12, kr25_13, kr25_14, kr25_15, kr25_16, kr34_1, kr34_2, kr37_1, kr37_2, kr40_1, kr40_2, kr43_2, kr43_3, kr44_0, kr44_1, kr44_4, kr46_0, kr48_0, kr50_0, kr52_0, kr54_0, kr56_0, kr60_3, kr60_4, kr63_0, kr63_1, kr63_2, kr66_0, kr66_1, kr66_2, kr66_3, kr66_4, kr67_0, kr70_0, kr70_1, kr70_2, kr72_1, kr72_2, kr72_3, kr72_4, kr72_5, kr72_6, kr72_7, kl2, kl3, kl4, kl5, kl6, kl8, kl9, kl10, kl11, kl12, kl13, kl14, kl15, kl17, kl18, kl20, kl21, kl23, kl24, kl26, kl27, kl28, kl29, kl30, kl31, kl32, kl33, kl35, kl36, kl38, kl39, kl41, kl42, kl45, kl47, kl49, kl51, kl53, kl55, kl57, kl58, kl59, kl61, kl62, kl64, kl65, kl68, kl69, kl71, kl73, kl74, kl75, kl76, h'.1.1.1]
            exact b1.trans c1
      obtain ⟨τ', m1, m2⟩ := main
      refine ⟨τ', ?_, m2⟩
      unfold f_X11_ask f_X9_bestQuestion
      simp (disch := omega) only [↓reduceIte, kz_lt, Option.bind_some, kz_ix, kz_leT, kz_leF, kz_ltT, kz_ltF, kz_lt0, kz_0le, kz_0ltT, kz_le0F, kz_eq0F, kz_10, kz_00, kz_11, kz_01, nI_clamp, nI_1, nI_add, pk_mul, kc0, kc1, kc2, kc3, kc4, kc5, kc6, kc7, kc8, kc9, kc10, kx0, kx1, kx2, kx3, kx4, kx5, kx6, kx7, kx8, kr0_0, kr0_1, kr0_2, kr0_3, kr0_4, kr0_5, kr0_6, kr0_7, kr0_8, kr0_9, kr1_1, kr1_2, kr1_3, kr1_4, kr1_5, kr7_6, kr7_7, kr7_8, kr7_9, kr7_10, kr7_11, kr7_12, kr7_13, kr7_14, kr7_15, kr7_16, kr16_1, kr16_2, kr19_1, kr19_2, kr22_1, kr22_2, kr25_6, kr25_7, kr25_8, kr25_9, kr25_10, kr25_11, kr25_12, kr25_13, kr25_14, kr25_15, kr25_16, kr34_1, kr34_2, kr37_1, kr37_2, kr40_1, kr40_2, kr43_2, kr43_3, kr44_0, kr44_1, kr44_4, kr46_0, kr48_0, kr50_0, kr52_0, kr54_0, kr56_0, kr60_3, kr60_4, kr63_0, kr63_1, kr63_2, kr66_0, kr66_1, kr66_2, kr66_3, kr66_4, kr67_0, kr70_0, kr70_1, kr70_2, kr72_1, kr72_2, kr72_3, kr72_4, kr72_5, kr72_6, kr72_7, kl2, kl3, kl4, kl5, kl6, kl8, kl9, kl10, kl11, kl12, kl13, kl14, kl15, kl17, kl18, kl20, kl21, kl23, kl24, kl26, kl27, kl28, kl29, kl30, kl31, kl32, kl33, kl35, kl36, kl38, kl39, kl41, kl42, kl45, kl47, kl49, kl51, kl53, kl55, kl57, kl58, kl59, kl61, kl62, kl64, kl65, kl68, kl69, kl71, kl73, kl74, kl75, kl76, h.2.2.2.2.1.1, a1, m1]
    · obtain ⟨lv, τ1, a1, a2, hm, hs⟩ := kM_sus hA hkk h
      rw [hL] at a1
      have hl := hm.1
      have main : ∃ τ', f_X12_ask_29 kf_F 77 L (-2) 0 0 τ1 = some (if L = 0 then -2 else (kp_af u (4 * kt_nd (ka_T A))).1, τ') ∧ kp_chM (fun r => r = 109 ∨ r = 110) (fun j => j = 50) τ1 τ' := by
        have k4 : (nI 4 = 0) = False := kz_eq0F (by decide) (by decide)
        by_cases l0 : L = 0
        · refine ⟨τ1, ?_, kp_chM.rf⟩
          rw [if_pos l0]
          show f_X12_ask_29_s _ 77 L (-2) 0 0 τ1 = _
          unfold f_X12_ask_29_s
          rw [if_pos l0]
          simp (disch := omega) only [↓reduceIte, kz_lt, Option.bind_some, kz_ix, kz_leT, kz_leF, kz_ltT, kz_ltF, kz_lt0, kz_0le, kz_0ltT, kz_le0F, kz_eq0F, kz_10, kz_00, kz_11, kz_01, nI_clamp, nI_1, nI_add, pk_mul, kc0, kc1, kc2, kc3, kc4, kc5, kc6, kc7, kc8, kc9, kc10, kx0, kx1, kx2, kx3, kx4, kx5, kx6, kx7, kx8, kr77_1, kr77_3, kr77_5, kr77_6, kr77_7, kr77_8, kr77_9, kr77_21, kr77_22, kr77_23, kr77_24, kr77_25, kr77_26, kr77_27, kr77_28, kr77_29, kr77_30, kr77_31, kr77_32, kr77_33, kr77_34, kr77_35, kr77_36, kr77_38, kr77_39, kr77_40, kr77_41, kr77_42, kr77_44, kr77_45, kr77_46, kr77_48, kr77_49, kr77_51, kr77_52, kr77_55, kr77_57, kr77_58, kr77_59, kr77_61, kr77_62, kr77_63, kr77_64, kr77_65, kl78, kl79, kl80, kl81, kl82, kl83, kl84, kl85, kl86, kl87, kl88, kl89, kl90, kl91, kl92, kl93, kl94, kl95, kl96, kl97, kl98, kl99, kl100, kl101, kl102, kl103, kl104, kl105, kl106, kl107, kl108, kl109, kl110, kl111, kl112, kl113, kl114, kl115, kl116, kl117, kl118, kl119, kl120, kl121, hm.2.1, hm.2.2.1.1]
          by_cases b : 4 * nI (kt_nd (ka_T A)) ≤ 0
          · rw [if_pos b]
          · rw [if_neg b]
        · rw [if_neg l0]
          refine kp_run (n := 4 * kt_nd (ka_T A)) (fun i f => ∀ τ, kp_chM (fun r => r = 109 ∨ r = 110) (fun j => j = 50) τ1 τ → ∃ τ', f_X12_ask_29 f 77 L (kp_af u i).1 (if i = 0 then 0 else (kp_af u i).2) (nI i) τ = some ((kp_af u (4 * kt_nd (ka_T A))).1, τ') ∧ kp_chM (fun r => r = 109 ∨ r = 110) (fun j => j = 50) τ1 τ') (by omega) (fun f τ cc => ?_) (fun i hi f ih τ cc => ?_) τ1 kp_chM.rf
          · have h' := hm.chM cc (fun r e => by omega) (by omega)
            refine ⟨τ, ?_, cc⟩
            show f_X12_ask_29_s _ 77 L _ _ (nI (4 * kt_nd (ka_T A))) τ = _
            unfold f_X12_ask_29_s
            simp (disch := omega) only [↓reduceIte, kz_lt, Option.bind_some, kz_ix, kz_leT, kz_leF, kz_ltT, kz_ltF, kz_lt0, kz_0le, kz_0ltT, kz_le0F, kz_eq0F, kz_10, kz_00, kz_11, kz_01, nI_clamp, nI_1, nI_add, pk_mul, kn3, kn4, kn5, kn6, kn7, kn8, kn9, kn10, kn16, kn20, kn24, kn30, kn32, kn36, kn40, kn41, kn42, kn48, kn54, kn60, kn61, kn64, kn69, kn70, kn99, kn100, kc0, kc1, kc2, kc3, kc4, kc5, kc6, kc7, kc8, kc9, kc10, kx0, kx1, kx2, kx3, kx4, kx5, kx6, kx7, kx8, kr77_1, kr77_3, kr77_5, kr77_6, kr77_7, kr77_8, kr77_9, kr77_21, kr77_22, kr77_23, kr77_24, kr77_25, kr77_26, kr77_27, kr77_28, kr77_29, kr77_30, kr77_31, kr77_32, kr77_33, kr77_34, kr77_35, kr77_36, kr77_38, kr77_39, kr77_40, kr77_41, kr77_42, kr77_44, kr77_45, kr77_46, kr77_48, kr77_49, kr77_51, kr77_52, kr77_55, kr77_57, kr77_58, kr77_59, kr77_61, kr77_62, kr77_63, kr77_64, kr77_65, kl78, kl79, kl80, kl81, kl82, kl83, kl84, kl85, kl86, kl87, kl88, kl89, kl90, kl91, kl92, kl93, kl94, kl95, kl96, kl97, kl98, kl99, kl100, kl101, kl102, kl103, kl104, kl105, kl106, kl107, kl108, kl109, kl110, kl111, kl112, kl113, kl114, kl115, kl116, kl117, kl118, kl119, kl120, kl121, h'.2.1, h'.2.2.1.1]
          · have h' := hm.chM cc (fun r e => by omega) (by omega)
            have hs' : kp_fS (τ.1 112) (ka_S A) := by rw [cc.1 112 (by decide) (by decide)]; exact hs
            obtain ⟨τ2, b1, b2⟩ := kM_wo hA h' hs' (d := i / 4) (p := i % 4) (by omega) (by omega) L
            rw [← hu i] at b1
            have ih := ih τ2 (cc.tr b2)
            rw [if_neg (Nat.succ_ne_zero i), kp_af_s] at ih
            have d1 : nI i / nI 4 = nI (i / 4) := pk_div (by omega) (by decide) (by decide)
            have d2 : nI i - nI (i / 4 * 4) = nI (i % 4) := by rw [pk_sub (by omega), show i - i / 4 * 4 = i % 4 by omega]
            show ∃ τ', f_X12_ask_29_s _ 77 L _ _ (nI i) τ = some (_, τ') ∧ _
            unfold f_X12_ask_29_s f_X12_ask_78 f_X12_ask_95
            rw [if_neg l0]
            simp (disch := omega) only [↓reduceIte, kz_lt, Option.bind_some, kz_ix, kz_leT, kz_leF, kz_ltT, kz_ltF, kz_lt0, kz_0le, kz_0ltT, kz_le0F, kz_eq0F, kz_10, kz_00, kz_11, kz_01, nI_clamp, nI_1, nI_add, pk_mul, kn3, kn4, kn5, kn6, kn7, kn8, kn9, kn10, kn16, kn20, kn24, kn30, kn32, kn36, kn40, kn41, kn42, kn48, kn54, kn60, kn61, kn64, kn69, kn70, kn99, kn100, kc0, kc1, kc2, kc3, kc4, kc5, kc6, kc7, kc8, kc9, kc10, kx0, kx1, kx2, kx3, kx4, kx5, kx6, kx7, kx8, kr77_1, kr77_3, kr77_5, kr77_6, kr77_7, kr77_8, kr77_9, kr77_21, kr77_22, kr77_23, kr77_24, kr77_25, kr77_26, kr77_27, kr77_28, kr77_29, kr77_30, kr77_31, kr77_32, kr77_33, kr77_34, kr77_35, kr77_36, kr77_38, kr77_39, kr77_40, kr77_41, kr77_42, kr77_44, kr77_45, kr77_46, kr77_48, kr77_49, kr77_51, kr77_52, kr77_55, kr77_57, kr77_58, kr77_59, kr77_61, kr77_62, kr77_63, kr77_64, kr77_65, kl78, kl79, kl80, kl81, kl82, kl83, kl84, kl85, kl86, kl87, kl88, kl89, kl90, kl91, kl92, kl93, kl94, kl95, kl96, kl97, kl98, kl99, kl100, kl101, kl102, kl103, kl104, kl105, kl106, kl107, kl108, kl109, kl110, kl111, kl112, kl113, kl114, kl115, kl116, kl117, kl118, kl119, kl120, kl121, h'.2.1, h'.2.2.1.1, k4, d1, d2, b1]
            by_cases i0 : i = 0
            · subst i0
              rw [if_neg (show ¬ (kp_af u 0).2 ≤ nI (u 0) from nI_ge (a := u 0) (b := 6) (by have := u5 0; omega) (by decide))] at ih
              rw [if_pos (show (kp_af u 0).1 < 0 from kp_m2)]
              exact ih
            · obtain ⟨a, ha, ea⟩ := kp_af_inv u u5 i (by omega) (by omega)
              rw [if_neg (show ¬ (kp_af u i).1 < 0 by rw [ea]; exact nI_pos (by omega)), if_neg i0]
              by_cases b : (kp_af u i).2 ≤ nI (u i)
              · rw [if_pos b] at ih
                rw [if_neg (fun e => absurd b (Int32.not_le.mpr e))]
                exact ih
              · rw [if_neg b] at ih
                rw [if_pos (Int32.not_le.mp b)]; exact ih
      obtain ⟨τ', m1, m2⟩ := main
      refine ⟨τ', ?_, a2.tr (kM_xm m2)⟩
      unfold f_X12_ask
      simp (disch := omega) only [↓reduceIte, kz_lt, Option.bind_some, kz_ix, kz_leT, kz_leF, kz_ltT, kz_ltF, kz_lt0, kz_0le, kz_0ltT, kz_le0F, kz_eq0F, kz_10, kz_00, kz_11, kz_01, nI_clamp, nI_1, nI_add, pk_mul, kc0, kc1, kc2, kc3, kc4, kc5, kc6, kc7, kc8, kc9, kc10, kx0, kx1, kx2, kx3, kx4, kx5, kx6, kx7, kx8, kr77_1, kr77_3, kr77_5, kr77_6, kr77_7, kr77_8, kr77_9, kr77_21, kr77_22, kr77_23, kr77_24, kr77_25, kr77_26, kr77_27, kr77_28, kr77_29, kr77_30, kr77_31, kr77_32, kr77_33, kr77_34, kr77_35, kr77_36, kr77_38, kr77_39, kr77_40, kr77_41, kr77_42, kr77_44, kr77_45, kr77_46, kr77_48, kr77_49, kr77_51, kr77_52, kr77_55, kr77_57, kr77_58, kr77_59, kr77_61, kr77_62, kr77_63, kr77_64, kr77_65, kl78, kl79, kl80, kl81, kl82, kl83, kl84, kl85, kl86, kl87, kl88, kl89, kl90, kl91, kl92, kl93, kl94, kl95, kl96, kl97, kl98, kl99, kl100, kl101, kl102, kl103, kl104, kl105, kl106, kl107, kl108, kl109, kl110, kl111, kl112, kl113, kl114, kl115, kl116, kl117, kl118, kl119, kl120, kl121, h.2.2.2.2.1.1, kM_in (show ka_w A < 2 ^ 30 - 1 by omega) hkk, a1, m1]
  · refine kp_qq.st (-1) (fun σ h => ?_) (fun σ h => ?_)
    · unfold f_X11_ask
      rw [kr0_9, h.2.2.2.2.1.1]
      rcases kp_out (by omega) hx with h1 | ⟨h1, h2⟩
      · rw [if_pos h1]
      · rw [if_neg h1, if_neg (kp_nlt (by omega) h1 h2)]
    · unfold f_X12_ask
      simp (disch := omega) only [↓reduceIte, kz_lt, Option.bind_some, kz_ix, kz_leT, kz_leF, kz_ltT, kz_ltF, kz_lt0, kz_0le, kz_0ltT, kz_le0F, kz_eq0F, kz_10, kz_00, kz_11, kz_01, nI_clamp, nI_1, nI_add, pk_mul, kc0, kc1, kc2, kc3, kc4, kc5, kc6, kc7, kc8, kc9, kc10, kx0, kx1, kx2, kx3, kx4, kx5, kx6, kx7, kx8, kr77_1, kr77_3, kr77_5, kr77_6, kr77_7, kr77_8, kr77_9, kr77_21, kr77_22, kr77_23, kr77_24, kr77_25, kr77_26, kr77_27, kr77_28, kr77_29, kr77_30, kr77_31, kr77_32, kr77_33, kr77_34, kr77_35, kr77_36, kr77_38, kr77_39, kr77_40, kr77_41, kr77_42, kr77_44, kr77_45, kr77_46, kr77_48, kr77_49, kr77_51, kr77_52, kr77_55, kr77_57, kr77_58, kr77_59, kr77_61, kr77_62, kr77_63, kr77_64, kr77_65, kl78, kl79, kl80, kl81, kl82, kl83, kl84, kl85, kl86, kl87, kl88, kl89, kl90, kl91, kl92, kl93, kl94, kl95, kl96, kl97, kl98, kl99, kl100, kl101, kl102, kl103, kl104, kl105, kl106, kl107, kl108, kl109, kl110, kl111, kl112, kl113, kl114, kl115, kl116, kl117, kl118, kl119, kl120, kl121, h.2.2.2.2.1.1, kM_inF (show ka_w A < 2 ^ 30 - 1 by omega) hx]
