/-! ===== pure: the class cuts its tape ===== -/
def kx_TC (X : kx_X) (σ : kf_St) : Prop := X.1 ≤ 2000 ∧ σ.1 1 0 = nI X.1 ∧ (∀ i, i < X.1 → σ.1 2 i &&& 255 = nI (X.2 i)) ∧ (∀ i, X.2 i < 256) ∧ (∀ k, k < 21 → σ.2 3 k = kf_codes k)
theorem kx_TC.fr {X : kx_X} {σ τ : kf_St} {P Q : Nat → Nat → Prop} (h : kx_TC X σ) (c : kx_fr P Q σ τ) (h1 : ¬ P 1 0) (h2 : ∀ j, ¬ P 2 j) (h3 : ∀ j, ¬ Q 3 j) : kx_TC X τ := ⟨h.1, by rw [c.1 1 0 h1]; exact h.2.1, fun i hi => by rw [c.1 2 i (h2 i)]; exact h.2.2.1 i hi, h.2.2.2.1, fun k hk => by rw [c.2 3 k (h3 k)]; exact h.2.2.2.2 k hk⟩
def kx_tP (a b : Nat) : Prop := a = 1 ∧ (b = 6 ∨ b = 7)
def kx_tQ (a b : Nat) : Prop := a = 1 ∧ b = 8
theorem kx_TC.t {X : kx_X} {σ τ : kf_St} (h : kx_TC X σ) (c : kx_fr kx_tP kx_tQ σ τ) : kx_TC X τ := h.fr c (by unfold kx_tP; omega) (fun j => by unfold kx_tP; omega) (fun j => by unfold kx_tQ; omega)
theorem kC_byt {X : kx_X} {σ : kf_St} (h : kx_TC X σ) {i : Nat} (hi : i ≤ 2000) : f_X8_byteAt 1 (nI i) σ = some (if i < X.1 then nI (X.2 i) else -1, σ) := by
  have hl := h.1
  unfold f_X8_byteAt
  by_cases b : i < X.1
  · rw [if_pos b]
    simp (disch := omega) only [↓reduceIte, kz_lt, Option.bind_some, kz_ix, kz_leT, kz_leF, kz_ltT, kz_ltF, kz_lt0, kz_0le, kz_0ltT, kz_le0F, kz_eq0F, kz_10, kz_00, kz_11, kz_01, nI_clamp, nI_1, nI_add, pk_mul, kc0, kc1, kc2, kc3, kc4, kc5, kc6, kc7, kc8, kc9, kc10, kx0, kx1, kx2, kx3, kx4, kx5, kx6, kx7, kx8, kr0_0, kr0_1, kr0_2, kr0_3, kr0_4, kr0_5, kr0_6, kr0_7, kr0_8, kr0_9, kr1_1, kr1_2, kr1_3, kr1_4, kr1_5, kr7_6, kr7_7, kr7_8, kr7_9, kr7_10, kr7_11, kr7_12, kr7_13, kr7_14, kr7_15, kr7_16, kr16_1, kr16_2, kr19_1, kr19_2, kr22_1, kr22_2, kr25_6, kr25_7, kr25_8, kr25_9, kr25_10, kr25_11, kr25_12, kr25_13, kr25_14, kr25_15, kr25_16, kr34_1, kr34_2, kr37_1, kr37_2, kr40_1, kr40_2, kr43_2, kr43_3, kr44_0, kr44_1, kr44_4, kr46_0, kr48_0, kr50_0, kr52_0, kr54_0, kr56_0, kr60_3, kr60_4, kr63_0, kr63_1, kr63_2, kr66_0, kr66_1, kr66_2, kr66_3, kr66_4, kr67_0, kr70_0, kr70_1, kr70_2, kr72_1, kr72_2, kr72_3, kr72_4, kr72_5, kr72_6, kr72_7, kl2, kl3, kl4, kl5, kl6, kl8, kl9, kl10, kl11, kl12, kl13, kl14, kl15, kl17, kl18, kl20, kl21, kl23, kl24, kl26, kl27, kl28, kl29, kl30, kl31, kl32, kl33, kl35, kl36, kl38, kl39, kl41, kl42, kl45, kl47, kl49, kl51, kl53, kl55, kl57, kl58, kl59, kl61, kl62, kl64, kl65, kl68, kl69, kl71, kl73, kl74, kl75, kl76, h.2.1, h.2.2.1 i b]
  · rw [if_neg b]
    simp (disch := omega) only [↓reduceIte, kz_lt, Option.bind_some, kz_ix, kz_leT, kz_leF, kz_ltT, kz_ltF, kz_lt0, kz_0le, kz_0ltT, kz_le0F, kz_eq0F, kz_10, kz_00, kz_11, kz_01, nI_clamp, nI_1, nI_add, pk_mul, kc0, kc1, kc2, kc3, kc4, kc5, kc6, kc7, kc8, kc9, kc10, kx0, kx1, kx2, kx3, kx4, kx5, kx6, kx7, kx8, kr0_0, kr0_1, kr0_2, kr0_3, kr0_4, kr0_5, kr0_6, kr0_7, kr0_8, kr0_9, kr1_1, kr1_2, kr1_3, kr1_4, kr1_5, kr7_6, kr7_7, kr7_8, kr7_9, kr7_10, kr7_11, kr7_12, kr7_13, kr7_14, kr7_15, kr7_16, kr16_1, kr16_2, kr19_1, kr19_2, kr22_1, kr22_2, kr25_6, kr25_7, kr25_8, kr25_9, kr25_10, kr25_11, kr25_12, kr25_13, kr25_14, kr25_15, kr25_16, kr34_1, kr34_2, kr37_1, kr37_2, kr40_1, kr40_2, kr43_2, kr43_3, kr44_0, kr44_1, kr44_4, kr46_0, kr48_0, kr50_0, kr52_0, kr54_0, kr56_0, kr60_3, kr60_4, kr63_0, kr63_1, kr63_2, kr66_0, kr66_1, kr66_2, kr66_3, kr66_4, kr67_0, kr70_0, kr70_1, kr70_2, kr72_1, kr72_2, kr72_3, kr72_4, kr72_5, kr72_6, kr72_7, kl2, kl3, kl4, kl5, kl6, kl8, kl9, kl10, kl11, kl12, kl13, kl14, kl15, kl17, kl18, kl20, kl21, kl23, kl24, kl26, kl27, kl28, kl29, kl30, kl31, kl32, kl33, kl35, kl36, kl38, kl39, kl41, kl42, kl45, kl47, kl49, kl51, kl53, kl55, kl57, kl58, kl59, kl61, kl62, kl64, kl65, kl68, kl69, kl71, kl73, kl74, kl75, kl76, h.2.1]
theorem kC_skip {X : kx_X} {σ : kf_St} (h : kx_TC X σ) {i : Nat} (hi : i ≤ X.1) (e : σ.1 1 6 = nI i) : ∃ τ, f_X8_skipBlanks 1 σ = some τ ∧ kx_fr kx_tP kx_tQ σ τ ∧ τ.1 1 6 = nI (kx_en kx_bl X i) := by
  have hl := h.1
  unfold f_X8_skipBlanks
  refine kp_ind (n := X.1) (P := fun i f => ∀ τ, kx_fr kx_tP kx_tQ σ τ → τ.1 1 6 = nI i → ∃ τ', f_X8_skipBlanks_0 f 1 τ = some τ' ∧ kx_fr kx_tP kx_tQ σ τ' ∧ τ'.1 1 6 = nI (kx_en kx_bl X i)) (fun f τ cc e => ?_) (fun i hi f ih τ cc e => ?_) (X.1 - i) i (by omega) kf_F (kf_F_gt (by omega)) σ kx_fr.rf e
  · refine ⟨τ, ?_, cc, by rw [kx_en_f (fun q => absurd q (Nat.lt_irrefl _))]; exact e⟩
    show f_X8_skipBlanks_0_s _ 1 τ = _
    unfold f_X8_skipBlanks_0_s
    simp (disch := omega) only [↓reduceIte, kz_lt, Option.bind_some, kz_ix, kz_leT, kz_leF, kz_ltT, kz_ltF, kz_lt0, kz_0le, kz_0ltT, kz_le0F, kz_eq0F, kz_10, kz_00, kz_11, kz_01, nI_clamp, nI_1, nI_add, pk_mul, kc0, kc1, kc2, kc3, kc4, kc5, kc6, kc7, kc8, kc9, kc10, kx0, kx1, kx2, kx3, kx4, kx5, kx6, kx7, kx8, kr0_0, kr0_1, kr0_2, kr0_3, kr0_4, kr0_5, kr0_6, kr0_7, kr0_8, kr0_9, kr1_1, kr1_2, kr1_3, kr1_4, kr1_5, kr7_6, kr7_7, kr7_8, kr7_9, kr7_10, kr7_11, kr7_12, kr7_13, kr7_14, kr7_15, kr7_16, kr16_1, kr16_2, kr19_1, kr19_2, kr22_1, kr22_2, kr25_6, kr25_7, kr25_8, kr25_9, kr25_10, kr25_11, kr25_12, kr25_13, kr25_14, kr25_15, kr25_16, kr34_1, kr34_2, kr37_1, kr37_2, kr40_1, kr40_2, kr43_2, kr43_3, kr44_0, kr44_1, kr44_4, kr46_0, kr48_0, kr50_0, kr52_0, kr54_0, kr56_0, kr60_3, kr60_4, kr63_0, kr63_1, kr63_2, kr66_0, kr66_1, kr66_2, kr66_3, kr66_4, kr67_0, kr70_0, kr70_1, kr70_2, kr72_1, kr72_2, kr72_3, kr72_4, kr72_5, kr72_6, kr72_7, kl2, kl3, kl4, kl5, kl6, kl8, kl9, kl10, kl11, kl12, kl13, kl14, kl15, kl17, kl18, kl20, kl21, kl23, kl24, kl26, kl27, kl28, kl29, kl30, kl31, kl32, kl33, kl35, kl36, kl38, kl39, kl41, kl42, kl45, kl47, kl49, kl51, kl53, kl55, kl57, kl58, kl59, kl61, kl62, kl64, kl65, kl68, kl69, kl71, kl73, kl74, kl75, kl76, e, (h.t cc).2.1]
  · have h' := h.t cc
    have by1 := kC_byt h' (i := i) (by omega)
    rw [if_pos hi] at by1
    by_cases b : kx_bl (X.2 i) = true
    · obtain ⟨τ', r1, r2, r3⟩ := ih (kf_wi τ 1 6 (nI (i + 1))) (cc.wi (by unfold kx_tP; omega)) (kp_wi_same _ _ _ _)
      refine ⟨τ', ?_, r2, by rw [kx_en_t hi b]; exact r3⟩
      show f_X8_skipBlanks_0_s _ 1 τ = _
      unfold f_X8_skipBlanks_0_s
      simp (disch := omega) only [↓reduceIte, kz_lt, Option.bind_some, kz_ix, kz_leT, kz_leF, kz_ltT, kz_ltF, kz_lt0, kz_0le, kz_0ltT, kz_le0F, kz_eq0F, kz_10, kz_00, kz_11, kz_01, nI_clamp, nI_1, nI_add, pk_mul, kc0, kc1, kc2, kc3, kc4, kc5, kc6, kc7, kc8, kc9, kc10, kx0, kx1, kx2, kx3, kx4, kx5, kx6, kx7, kx8, kr0_0, kr0_1, kr0_2, kr0_3, kr0_4, kr0_5, kr0_6, kr0_7, kr0_8, kr0_9, kr1_1, kr1_2, kr1_3, kr1_4, kr1_5, kr7_6, kr7_7, kr7_8, kr7_9, kr7_10, kr7_11, kr7_12, kr7_13, kr7_14, kr7_15, kr7_16, kr16_1, kr16_2, kr19_1, kr19_2, kr22_1, kr22_2, kr25_6, kr25_7, kr25_8, kr25_9, kr25_10, kr25_11, kr25_12, kr25_13, kr25_14, kr25_15, kr25_16, kr34_1, kr34_2, kr37_1, kr37_2, kr40_1, kr40_2, kr43_2, kr43_3, kr44_0, kr44_1, kr44_4, kr46_0, kr48_0, kr50_0, kr52_0, kr54_0, kr56_0, kr60_3, kr60_4, kr63_0, kr63_1, kr63_2, kr66_0, kr66_1, kr66_2, kr66_3, kr66_4, kr67_0, kr70_0, kr70_1, kr70_2, kr72_1, kr72_2, kr72_3, kr72_4, kr72_5, kr72_6, kr72_7, kl2, kl3, kl4, kl5, kl6, kl8, kl9, kl10, kl11, kl12, kl13, kl14, kl15, kl17, kl18, kl20, kl21, kl23, kl24, kl26, kl27, kl28, kl29, kl30, kl31, kl32, kl33, kl35, kl36, kl38, kl39, kl41, kl42, kl45, kl47, kl49, kl51, kl53, kl55, kl57, kl58, kl59, kl61, kl62, kl64, kl65, kl68, kl69, kl71, kl73, kl74, kl75, kl76, e, h'.2.1, by1, kx_isB (h'.2.2.2.1 i), kx_b1t b]
      exact r1
    · refine ⟨τ, ?_, cc, by rw [kx_en_f (fun _ => b)]; exact e⟩
      show f_X8_skipBlanks_0_s _ 1 τ = _
      unfold f_X8_skipBlanks_0_s
      simp (disch := omega) only [↓reduceIte, kz_lt, Option.bind_some, kz_ix, kz_leT, kz_leF, kz_ltT, kz_ltF, kz_lt0, kz_0le, kz_0ltT, kz_le0F, kz_eq0F, kz_10, kz_00, kz_11, kz_01, nI_clamp, nI_1, nI_add, pk_mul, kc0, kc1, kc2, kc3, kc4, kc5, kc6, kc7, kc8, kc9, kc10, kx0, kx1, kx2, kx3, kx4, kx5, kx6, kx7, kx8, kr0_0, kr0_1, kr0_2, kr0_3, kr0_4, kr0_5, kr0_6, kr0_7, kr0_8, kr0_9, kr1_1, kr1_2, kr1_3, kr1_4, kr1_5, kr7_6, kr7_7, kr7_8, kr7_9, kr7_10, kr7_11, kr7_12, kr7_13, kr7_14, kr7_15, kr7_16, kr16_1, kr16_2, kr19_1, kr19_2, kr22_1, kr22_2, kr25_6, kr25_7, kr25_8, kr25_9, kr25_10, kr25_11, kr25_12, kr25_13, kr25_14, kr25_15, kr25_16, kr34_1, kr34_2, kr37_1, kr37_2, kr40_1, kr40_2, kr43_2, kr43_3, kr44_0, kr44_1, kr44_4, kr46_0, kr48_0, kr50_0, kr52_0, kr54_0, kr56_0, kr60_3, kr60_4, kr63_0, kr63_1, kr63_2, kr66_0, kr66_1, kr66_2, kr66_3, kr66_4, kr67_0, kr70_0, kr70_1, kr70_2, kr72_1, kr72_2, kr72_3, kr72_4, kr72_5, kr72_6, kr72_7, kl2, kl3, kl4, kl5, kl6, kl8, kl9, kl10, kl11, kl12, kl13, kl14, kl15, kl17, kl18, kl20, kl21, kl23, kl24, kl26, kl27, kl28, kl29, kl30, kl31, kl32, kl33, kl35, kl36, kl38, kl39, kl41, kl42, kl45, kl47, kl49, kl51, kl53, kl55, kl57, kl58, kl59, kl61, kl62, kl64, kl65, kl68, kl69, kl71, kl73, kl74, kl75, kl76, e, h'.2.1, by1, kx_isB (h'.2.2.2.1 i), kx_b1f b]
/-! words -/
theorem kC_w84 {X : kx_X} {σ : kf_St} (h : kx_TC X σ) {v : Int64} (ev : σ.2 1 8 = v) (e7 : σ.1 1 7 = 2) : ∃ τ, f_X8_cutWord_84 kf_F 1 0 σ = some τ ∧ kx_fr (fun a b => a = 1 ∧ b = 7) (fun _ _ => False) σ τ ∧ τ.1 1 7 = nI (kx_kw v) := by
  have main := kp_run (n := 21) (fun k f => (∃ τ, f_X8_cutWord_84 f 1 (nI k) σ = some τ ∧ kx_fr (fun a b => a = 1 ∧ b = 7) (fun _ _ => False) σ τ ∧ τ.1 1 7 = nI (if kp_fn (fun k => decide (kf_codes k = v)) (21 - k) k < 21 then 256 + kp_fn (fun k => decide (kf_codes k = v)) (21 - k) k else 2)) ∧ (∀ τ : kf_St, ¬ τ.1 1 7 = 2 → f_X8_cutWord_84 f 1 (nI k) τ = some τ)) (by decide) (fun f => ?_) (fun k hk f ih => ?_)
  · exact main.1
  · refine ⟨⟨σ, ?_, kx_fr.rf, ?_⟩, fun τ hτ => ?_⟩
    · show f_X8_cutWord_84_s _ 1 (nI 21) σ = _
      unfold f_X8_cutWord_84_s
      rfl
    · rw [e7]; rfl
    · show f_X8_cutWord_84_s _ 1 (nI 21) τ = _
      unfold f_X8_cutWord_84_s
      rfl
  · have l21 : (nI 21 ≤ nI k) = False := kz_leF hk (by decide)
    refine ⟨?_, fun τ hτ => ?_⟩
    · rw [kp_fn_s hk]
      by_cases b : kf_codes k = v
      · have hr := ih.2 (kf_wi σ 1 7 (nI (256 + k))) (by
          rw [kp_wi_same]
          exact fun q => absurd ((nI_eq (b := 2) (by omega) (by decide)).mp q) (by omega))
        refine ⟨kf_wi σ 1 7 (nI (256 + k)), ?_, kx_fr.rf.wi ⟨rfl, rfl⟩, ?_⟩
        · show f_X8_cutWord_84_s _ 1 (nI k) σ = _
          unfold f_X8_cutWord_84_s f_X8_cutWord_124
          have c0 : lg_cmp (kf_codes k) v = 0 := (lg_cmp_eq _ _).mpr b
          have k1 : (256 : Int32) + nI k = nI (256 + k) := nI_add 256 k
          simp (disch := omega) only [↓reduceIte, kz_lt, Option.bind_some, kz_ix, kz_leT, kz_leF, kz_ltT, kz_ltF, kz_lt0, kz_0le, kz_0ltT, kz_le0F, kz_eq0F, kz_10, kz_00, kz_11, kz_01, nI_clamp, nI_1, nI_add, pk_mul, kc0, kc1, kc2, kc3, kc4, kc5, kc6, kc7, kc8, kc9, kc10, kx0, kx1, kx2, kx3, kx4, kx5, kx6, kx7, kx8, kr0_0, kr0_1, kr0_2, kr0_3, kr0_4, kr0_5, kr0_6, kr0_7, kr0_8, kr0_9, kr1_1, kr1_2, kr1_3, kr1_4, kr1_5, kr7_6, kr7_7, kr7_8, kr7_9, kr7_10, kr7_11, kr7_12, kr7_13, kr7_14, kr7_15, kr7_16, kr16_1, kr16_2, kr19_1, kr19_2, kr22_1, kr22_2, kr25_6, kr25_7, kr25_8, kr25_9, kr25_10, kr25_11, kr25_12, kr25_13, kr25_14, kr25_15, kr25_16, kr34_1, kr34_2, kr37_1, kr37_2, kr40_1, kr40_2, kr43_2, kr43_3, kr44_0, kr44_1, kr44_4, kr46_0, kr48_0, kr50_0, kr52_0, kr54_0, kr56_0, kr60_3, kr60_4, kr63_0, kr63_1, kr63_2, kr66_0, kr66_1, kr66_2, kr66_3, kr66_4, kr67_0, kr70_0, kr70_1, kr70_2, kr72_1, kr72_2, kr72_3, kr72_4, kr72_5, kr72_6, kr72_7, kl2, kl3, kl4, kl5, kl6, kl8, kl9, kl10, kl11, kl12, kl13, kl14, kl15, kl17, kl18, kl20, kl21, kl23, kl24, kl26, kl27, kl28, kl29, kl30, kl31, kl32, kl33, kl35, kl36, kl38, kl39, kl41, kl42, kl45, kl47, kl49, kl51, kl53, kl55, kl57, kl58, kl59, kl61, kl62, kl64, kl65, kl68, kl69, kl71, kl73, kl74, kl75, kl76, l21, e7, ev, h.2.2.2.2 k hk, c0, k1]
          exact hr
        · rw [kp_wi_same, if_pos (decide_eq_true b), if_pos hk]
      · obtain ⟨τ, r1, r2, r3⟩ := ih.1
        rw [if_neg (show ¬ decide (kf_codes k = v) = true from fun q => b (of_decide_eq_true q))]
        refine ⟨τ, ?_, r2, r3⟩
        show f_X8_cutWord_84_s _ 1 (nI k) σ = _
        unfold f_X8_cutWord_84_s f_X8_cutWord_124
        have c0 : ¬ lg_cmp (kf_codes k) v = 0 := fun q => b ((lg_cmp_eq _ _).mp q)
        simp (disch := omega) only [↓reduceIte, kz_lt, Option.bind_some, kz_ix, kz_leT, kz_leF, kz_ltT, kz_ltF, kz_lt0, kz_0le, kz_0ltT, kz_le0F, kz_eq0F, kz_10, kz_00, kz_11, kz_01, nI_clamp, nI_1, nI_add, pk_mul, kc0, kc1, kc2, kc3, kc4, kc5, kc6, kc7, kc8, kc9, kc10, kx0, kx1, kx2, kx3, kx4, kx5, kx6, kx7, kx8, kr0_0, kr0_1, kr0_2, kr0_3, kr0_4, kr0_5, kr0_6, kr0_7, kr0_8, kr0_9, kr1_1, kr1_2, kr1_3, kr1_4, kr1_5, kr7_6, kr7_7, kr7_8, kr7_9, kr7_10, kr7_11, kr7_12, kr7_13, kr7_14, kr7_15, kr7_16, kr16_1, kr16_2, kr19_1, kr19_2, kr22_1, kr22_2, kr25_6, kr25_7, kr25_8, kr25_9, kr25_10, kr25_11, kr25_12, kr25_13, kr25_14, kr25_15, kr25_16, kr34_1, kr34_2, kr37_1, kr37_2, kr40_1, kr40_2, kr43_2, kr43_3, kr44_0, kr44_1, kr44_4, kr46_0, kr48_0, kr50_0, kr52_0, kr54_0, kr56_0, kr60_3, kr60_4, kr63_0, kr63_1, kr63_2, kr66_0, kr66_1, kr66_2, kr66_3, kr66_4, kr67_0, kr70_0, kr70_1, kr70_2, kr72_1, kr72_2, kr72_3, kr72_4, kr72_5, kr72_6, kr72_7, kl2, kl3, kl4, kl5, kl6, kl8, kl9, kl10, kl11, kl12, kl13, kl14, kl15, kl17, kl18, kl20, kl21, kl23, kl24, kl26, kl27, kl28, kl29, kl30, kl31, kl32, kl33, kl35, kl36, kl38, kl39, kl41, kl42, kl45, kl47, kl49, kl51, kl53, kl55, kl57, kl58, kl59, kl61, kl62, kl64, kl65, kl68, kl69, kl71, kl73, kl74, kl75, kl76, l21, e7, ev, h.2.2.2.2 k hk, c0]
        exact r1
    · show f_X8_cutWord_84_s _ 1 (nI k) τ = _
      unfold f_X8_cutWord_84_s
      simp (disch := omega) only [↓reduceIte, kz_lt, Option.bind_some, kz_ix, kz_leT, kz_leF, kz_ltT, kz_ltF, kz_lt0, kz_0le, kz_0ltT, kz_le0F, kz_eq0F, kz_10, kz_00, kz_11, kz_01, nI_clamp, nI_1, nI_add, pk_mul, kc0, kc1, kc2, kc3, kc4, kc5, kc6, kc7, kc8, kc9, kc10, kx0, kx1, kx2, kx3, kx4, kx5, kx6, kx7, kx8, kr0_0, kr0_1, kr0_2, kr0_3, kr0_4, kr0_5, kr0_6, kr0_7, kr0_8, kr0_9, kr1_1, kr1_2, kr1_3, kr1_4, kr1_5, kr7_6, kr7_7, kr7_8, kr7_9, kr7_10, kr7_11, kr7_12, kr7_13, kr7_14, kr7_15, kr7_16, kr16_1, kr16_2, kr19_1, kr19_2, kr22_1, kr22_2, kr25_6, kr25_7, kr25_8, kr25_9, kr25_10, kr25_11, kr25_12, kr25_13, kr25_14, kr25_15, kr25_16, kr34_1, kr34_2, kr37_1, kr37_2, kr40_1, kr40_2, kr43_2, kr43_3, kr44_0, kr44_1, kr44_4, kr46_0, kr48_0, kr50_0, kr52_0, kr54_0, kr56_0, kr60_3, kr60_4, kr63_0, kr63_1, kr63_2, kr66_0, kr66_1, kr66_2, kr66_3, kr66_4, kr67_0, kr70_0, kr70_1, kr70_2, kr72_1, kr72_2, kr72_3, kr72_4, kr72_5, kr72_6, kr72_7, kl2, kl3, kl4, kl5, kl6, kl8, kl9, kl10, kl11, kl12, kl13, kl14, kl15, kl17, kl18, kl20, kl21, kl23, kl24, kl26, kl27, kl28, kl29, kl30, kl31, kl32, kl33, kl35, kl36, kl38, kl39, kl41, kl42, kl45, kl47, kl49, kl51, kl53, kl55, kl57, kl58, kl59, kl61, kl62, kl64, kl65, kl68, kl69, kl71, kl73, kl74, kl75, kl76, l21, hτ]
theorem kC_word {X : kx_X} {σ : kf_St} (h : kx_TC X σ) {i : Nat} (hi : i ≤ X.1) (e : σ.1 1 6 = nI i) (ev : σ.2 1 8 = 0) : ∃ τ, f_X8_cutWord 1 σ = some τ ∧ kx_fr kx_tP kx_tQ σ τ ∧ τ.1 1 6 = nI (kx_en kx_le X i) ∧ τ.1 1 7 = nI (if kx_en kx_le X i - i ≤ 8 then kx_kw (kx_wc X (kx_en kx_le X i - i) i 0) else 1) ∧ τ.2 1 8 = kx_wc X (kx_en kx_le X i - i) i 0 := by
  have hl := h.1
  have main : ∃ τ, f_X8_cutWord_5 kf_F 1 (nI i) σ = f_X8_cutWord_62 1 (nI i) τ ∧ kx_fr kx_tP kx_tQ σ τ ∧ τ.1 1 6 = nI (kx_en kx_le X i) ∧ τ.2 1 8 = kx_wc X (kx_en kx_le X i - i) i 0 := by
    refine kp_ind (n := X.1) (P := fun j f => ∀ τ a, kx_fr kx_tP kx_tQ σ τ → τ.1 1 6 = nI j → τ.2 1 8 = a → ∃ τ', f_X8_cutWord_5 f 1 (nI i) τ = f_X8_cutWord_62 1 (nI i) τ' ∧ kx_fr kx_tP kx_tQ σ τ' ∧ τ'.1 1 6 = nI (kx_en kx_le X j) ∧ τ'.2 1 8 = kx_wc X (kx_en kx_le X j - j) j a) (fun f τ a cc e ea => ?_) (fun j hj f ih τ a cc e ea => ?_) (X.1 - i) i (by omega) kf_F (kf_F_gt (by omega)) σ 0 kx_fr.rf e ev
    · refine ⟨τ, ?_, cc, by rw [kx_en_f (fun q => absurd q (Nat.lt_irrefl _))]; exact e, by rw [kx_en_f (fun q => absurd q (Nat.lt_irrefl _)), Nat.sub_self]; exact ea⟩
      show f_X8_cutWord_5_s _ 1 (nI i) τ = _
      unfold f_X8_cutWord_5_s
      simp (disch := omega) only [↓reduceIte, kz_lt, Option.bind_some, kz_ix, kz_leT, kz_leF, kz_ltT, kz_ltF, kz_lt0, kz_0le, kz_0ltT, kz_le0F, kz_eq0F, kz_10, kz_00, kz_11, kz_01, nI_clamp, nI_1, nI_add, pk_mul, kc0, kc1, kc2, kc3, kc4, kc5, kc6, kc7, kc8, kc9, kc10, kx0, kx1, kx2, kx3, kx4, kx5, kx6, kx7, kx8, kr0_0, kr0_1, kr0_2, kr0_3, kr0_4, kr0_5, kr0_6, kr0_7, kr0_8, kr0_9, kr1_1, kr1_2, kr1_3, kr1_4, kr1_5, kr7_6, kr7_7, kr7_8, kr7_9, kr7_10, kr7_11, kr7_12, kr7_13, kr7_14, kr7_15, kr7_16, kr16_1, kr16_2, kr19_1, kr19_2, kr22_1, kr22_2, kr25_6, kr25_7, kr25_8, kr25_9, kr25_10, kr25_11, kr25_12, kr25_13, kr25_14, kr25_15, kr25_16, kr34_1, kr34_2, kr37_1, kr37_2, kr40_1, kr40_2, kr43_2, kr43_3, kr44_0, kr44_1, kr44_4, kr46_0, kr48_0, kr50_0, kr52_0, kr54_0, kr56_0, kr60_3, kr60_4, kr63_0, kr63_1, kr63_2, kr66_0, kr66_1, kr66_2, kr66_3, kr66_4, kr67_0, kr70_0, kr70_1, kr70_2, kr72_1, kr72_2, kr72_3, kr72_4, kr72_5, kr72_6, kr72_7, kl2, kl3, kl4, kl5, kl6, kl8, kl9, kl10, kl11, kl12, kl13, kl14, kl15, kl17, kl18, kl20, kl21, kl23, kl24, kl26, kl27, kl28, kl29, kl30, kl31, kl32, kl33, kl35, kl36, kl38, kl39, kl41, kl42, kl45, kl47, kl49, kl51, kl53, kl55, kl57, kl58, kl59, kl61, kl62, kl64, kl65, kl68, kl69, kl71, kl73, kl74, kl75, kl76, e, (h.t cc).2.1]
    · have h' := h.t cc
      have by1 := kC_byt h' (i := j) (by omega)
      rw [if_pos hj] at by1
      by_cases b : kx_le (X.2 j) = true
      · obtain ⟨τ', r1, r2, r3, r4⟩ := ih (kf_wi (kf_wl τ 1 8 ((27 : Int64) * a + Int32.toInt64 ((nI (X.2 j) - 97) + 1))) 1 6 (nI (j + 1))) ((27 : Int64) * a + Int32.toInt64 ((nI (X.2 j) - 97) + 1)) ((cc.wl (by unfold kx_tQ; omega)).wi (by unfold kx_tP; omega)) (kp_wi_same _ _ _ _) (kp_wl_same τ 1 8 _)
        have g := kx_en_gt hj b
        refine ⟨τ', ?_, r2, by rw [kx_en_t hj b]; exact r3, ?_⟩
        · show f_X8_cutWord_5_s _ 1 (nI i) τ = _
          unfold f_X8_cutWord_5_s f_X8_withLetter
          simp (disch := omega) only [↓reduceIte, kz_lt, Option.bind_some, kz_ix, kz_leT, kz_leF, kz_ltT, kz_ltF, kz_lt0, kz_0le, kz_0ltT, kz_le0F, kz_eq0F, kz_10, kz_00, kz_11, kz_01, nI_clamp, nI_1, nI_add, pk_mul, kc0, kc1, kc2, kc3, kc4, kc5, kc6, kc7, kc8, kc9, kc10, kx0, kx1, kx2, kx3, kx4, kx5, kx6, kx7, kx8, kr0_0, kr0_1, kr0_2, kr0_3, kr0_4, kr0_5, kr0_6, kr0_7, kr0_8, kr0_9, kr1_1, kr1_2, kr1_3, kr1_4, kr1_5, kr7_6, kr7_7, kr7_8, kr7_9, kr7_10, kr7_11, kr7_12, kr7_13, kr7_14, kr7_15, kr7_16, kr16_1, kr16_2, kr19_1, kr19_2, kr22_1, kr22_2, kr25_6, kr25_7, kr25_8, kr25_9, kr25_10, kr25_11, kr25_12, kr25_13, kr25_14, kr25_15, kr25_16, kr34_1, kr34_2, kr37_1, kr37_2, kr40_1, kr40_2, kr43_2, kr43_3, kr44_0, kr44_1, kr44_4, kr46_0, kr48_0, kr50_0, kr52_0, kr54_0, kr56_0, kr60_3, kr60_4, kr63_0, kr63_1, kr63_2, kr66_0, kr66_1, kr66_2, kr66_3, kr66_4, kr67_0, kr70_0, kr70_1, kr70_2, kr72_1, kr72_2, kr72_3, kr72_4, kr72_5, kr72_6, kr72_7, kl2, kl3, kl4, kl5, kl6, kl8, kl9, kl10, kl11, kl12, kl13, kl14, kl15, kl17, kl18, kl20, kl21, kl23, kl24, kl26, kl27, kl28, kl29, kl30, kl31, kl32, kl33, kl35, kl36, kl38, kl39, kl41, kl42, kl45, kl47, kl49, kl51, kl53, kl55, kl57, kl58, kl59, kl61, kl62, kl64, kl65, kl68, kl69, kl71, kl73, kl74, kl75, kl76, e, h'.2.1, by1, kx_isL_X8 (h'.2.2.2.1 j), kx_b1t b, ea, kp_wl_1]
          exact r1
        · rw [kx_en_t hj b] at g ⊢
          rw [r4, show kx_en kx_le X (j + 1) - j = (kx_en kx_le X (j + 1) - (j + 1)) + 1 by omega]
          rfl
      · refine ⟨τ, ?_, cc, by rw [kx_en_f (fun _ => b)]; exact e, by rw [kx_en_f (fun _ => b), Nat.sub_self]; exact ea⟩
        show f_X8_cutWord_5_s _ 1 (nI i) τ = _
        unfold f_X8_cutWord_5_s
        simp (disch := omega) only [↓reduceIte, kz_lt, Option.bind_some, kz_ix, kz_leT, kz_leF, kz_ltT, kz_ltF, kz_lt0, kz_0le, kz_0ltT, kz_le0F, kz_eq0F, kz_10, kz_00, kz_11, kz_01, nI_clamp, nI_1, nI_add, pk_mul, kc0, kc1, kc2, kc3, kc4, kc5, kc6, kc7, kc8, kc9, kc10, kx0, kx1, kx2, kx3, kx4, kx5, kx6, kx7, kx8, kr0_0, kr0_1, kr0_2, kr0_3, kr0_4, kr0_5, kr0_6, kr0_7, kr0_8, kr0_9, kr1_1, kr1_2, kr1_3, kr1_4, kr1_5, kr7_6, kr7_7, kr7_8, kr7_9, kr7_10, kr7_11, kr7_12, kr7_13, kr7_14, kr7_15, kr7_16, kr16_1, kr16_2, kr19_1, kr19_2, kr22_1, kr22_2, kr25_6, kr25_7, kr25_8, kr25_9, kr25_10, kr25_11, kr25_12, kr25_13, kr25_14, kr25_15, kr25_16, kr34_1, kr34_2, kr37_1, kr37_2, kr40_1, kr40_2, kr43_2, kr43_3, kr44_0, kr44_1, kr44_4, kr46_0, kr48_0, kr50_0, kr52_0, kr54_0, kr56_0, kr60_3, kr60_4, kr63_0, kr63_1, kr63_2, kr66_0, kr66_1, kr66_2, kr66_3, kr66_4, kr67_0, kr70_0, kr70_1, kr70_2, kr72_1, kr72_2, kr72_3, kr72_4, kr72_5, kr72_6, kr72_7, kl2, kl3, kl4, kl5, kl6, kl8, kl9, kl10, kl11, kl12, kl13, kl14, kl15, kl17, kl18, kl20, kl21, kl23, kl24, kl26, kl27, kl28, kl29, kl30, kl31, kl32, kl33, kl35, kl36, kl38, kl39, kl41, kl42, kl45, kl47, kl49, kl51, kl53, kl55, kl57, kl58, kl59, kl61, kl62, kl64, kl65, kl68, kl69, kl71, kl73, kl74, kl75, kl76, e, h'.2.1, by1, kx_isL_X8 (h'.2.2.2.1 j), kx_b1f b]
  obtain ⟨τ, m1, m2, m3, m4⟩ := main
  have g1 := kx_en_ge kx_le X i
  have g2 := kx_en_le (p := kx_le) hi
  have e6 : nI (kx_en kx_le X i) - nI i = nI (kx_en kx_le X i - i) := pk_sub g1
  by_cases b : kx_en kx_le X i - i ≤ 8
  · obtain ⟨τ2, w1, w2, w3⟩ := kC_w84 (σ := kf_wi τ 1 7 2) ((h.t m2).t (kx_fr.rf.wi (by unfold kx_tP; omega))) (v := kx_wc X (kx_en kx_le X i - i) i 0) m4 (kp_wi_same _ _ _ _)
    refine ⟨τ2, ?_, (m2.wi (by unfold kx_tP; omega)).tr (w2.mono (fun a b e => by unfold kx_tP; omega) (fun a b e => e.elim)), ?_, ?_, ?_⟩
    · unfold f_X8_cutWord
      simp (disch := omega) only [↓reduceIte, kz_lt, Option.bind_some, kz_ix, kz_leT, kz_leF, kz_ltT, kz_ltF, kz_lt0, kz_0le, kz_0ltT, kz_le0F, kz_eq0F, kz_10, kz_00, kz_11, kz_01, nI_clamp, nI_1, nI_add, pk_mul, kc0, kc1, kc2, kc3, kc4, kc5, kc6, kc7, kc8, kc9, kc10, kx0, kx1, kx2, kx3, kx4, kx5, kx6, kx7, kx8, kr0_0, kr0_1, kr0_2, kr0_3, kr0_4, kr0_5, kr0_6, kr0_7, kr0_8, kr0_9, kr1_1, kr1_2, kr1_3, kr1_4, kr1_5, kr7_6, kr7_7, kr7_8, kr7_9, kr7_10, kr7_11, kr7_12, kr7_13, kr7_14, kr7_15, kr7_16, kr16_1, kr16_2, kr19_1, kr19_2, kr22_1, kr22_2, kr25_6, kr25_7, kr25_8, kr25_9, kr25_10, kr25_11, kr25_12, kr25_13, kr25_14, kr25_15, kr25_16, kr34_1, kr34_2, kr37_1, kr37_2, kr40_1, kr40_2, kr43_2, kr43_3, kr44_0, kr44_1, kr44_4, kr46_0, kr48_0, kr50_0, kr52_0, kr54_0, kr56_0, kr60_3, kr60_4, kr63_0, kr63_1, kr63_2, kr66_0, kr66_1, kr66_2, kr66_3, kr66_4, kr67_0, kr70_0, kr70_1, kr70_2, kr72_1, kr72_2, kr72_3, kr72_4, kr72_5, kr72_6, kr72_7, kl2, kl3, kl4, kl5, kl6, kl8, kl9, kl10, kl11, kl12, kl13, kl14, kl15, kl17, kl18, kl20, kl21, kl23, kl24, kl26, kl27, kl28, kl29, kl30, kl31, kl32, kl33, kl35, kl36, kl38, kl39, kl41, kl42, kl45, kl47, kl49, kl51, kl53, kl55, kl57, kl58, kl59, kl61, kl62, kl64, kl65, kl68, kl69, kl71, kl73, kl74, kl75, kl76, e]
      rw [m1]
      unfold f_X8_cutWord_62 f_X8_cutWord_79
      simp (disch := omega) only [↓reduceIte, kz_lt, Option.bind_some, kz_ix, kz_leT, kz_leF, kz_ltT, kz_ltF, kz_lt0, kz_0le, kz_0ltT, kz_le0F, kz_eq0F, kz_10, kz_00, kz_11, kz_01, nI_clamp, nI_1, nI_add, pk_mul, kn2, kn3, kn4, kn5, kn6, kn7, kn8, kn9, kn10, kn16, kn20, kn24, kn30, kn32, kn36, kn40, kn41, kn42, kn48, kn54, kn60, kn61, kn64, kn69, kn70, kn99, kn100, kc0, kc1, kc2, kc3, kc4, kc5, kc6, kc7, kc8, kc9, kc10, kx0, kx1, kx2, kx3, kx4, kx5, kx6, kx7, kx8, kr0_0, kr0_1, kr0_2, kr0_3, kr0_4, kr0_5, kr0_6, kr0_7, kr0_8, kr0_9, kr1_1, kr1_2, kr1_3, kr1_4, kr1_5, kr7_6, kr7_7, kr7_8, kr7_9, kr7_10, kr7_11, kr7_12, kr7_13, kr7_14, kr7_15, kr7_16, kr16_1, kr16_2, kr19_1, kr19_2, kr22_1, kr22_2, kr25_6, kr25_7, kr25_8, kr25_9, kr25_10, kr25_11, kr25_12, kr25_13, kr25_14, kr25_15, kr25_16, kr34_1, kr34_2, kr37_1, kr37_2, kr40_1, kr40_2, kr43_2, kr43_3, kr44_0, kr44_1, kr44_4, kr46_0, kr48_0, kr50_0, kr52_0, kr54_0, kr56_0, kr60_3, kr60_4, kr63_0, kr63_1, kr63_2, kr66_0, kr66_1, kr66_2, kr66_3, kr66_4, kr67_0, kr70_0, kr70_1, kr70_2, kr72_1, kr72_2, kr72_3, kr72_4, kr72_5, kr72_6, kr72_7, kl2, kl3, kl4, kl5, kl6, kl8, kl9, kl10, kl11, kl12, kl13, kl14, kl15, kl17, kl18, kl20, kl21, kl23, kl24, kl26, kl27, kl28, kl29, kl30, kl31, kl32, kl33, kl35, kl36, kl38, kl39, kl41, kl42, kl45, kl47, kl49, kl51, kl53, kl55, kl57, kl58, kl59, kl61, kl62, kl64, kl65, kl68, kl69, kl71, kl73, kl74, kl75, kl76, m3, e6]
      exact w1
    · rw [w2.1 1 6 (by omega), kp_wi_ne (by omega)]; exact m3
    · rw [w3, if_pos b]
    · rw [w2.2 1 8 (fun q => q)]; exact m4
  · refine ⟨kf_wi τ 1 7 1, ?_, m2.wi (by unfold kx_tP; omega), by rw [kp_wi_ne (by omega)]; exact m3, by rw [kp_wi_same, if_neg b]; rfl, m4⟩
    unfold f_X8_cutWord
    simp (disch := omega) only [↓reduceIte, kz_lt, Option.bind_some, kz_ix, kz_leT, kz_leF, kz_ltT, kz_ltF, kz_lt0, kz_0le, kz_0ltT, kz_le0F, kz_eq0F, kz_10, kz_00, kz_11, kz_01, nI_clamp, nI_1, nI_add, pk_mul, kc0, kc1, kc2, kc3, kc4, kc5, kc6, kc7, kc8, kc9, kc10, kx0, kx1, kx2, kx3, kx4, kx5, kx6, kx7, kx8, kr0_0, kr0_1, kr0_2, kr0_3, kr0_4, kr0_5, kr0_6, kr0_7, kr0_8, kr0_9, kr1_1, kr1_2, kr1_3, kr1_4, kr1_5, kr7_6, kr7_7, kr7_8, kr7_9, kr7_10, kr7_11, kr7_12, kr7_13, kr7_14, kr7_15, kr7_16, kr16_1, kr16_2, kr19_1, kr19_2, kr22_1, kr22_2, kr25_6, kr25_7, kr25_8, kr25_9, kr25_10, kr25_11, kr25_12, kr25_13, kr25_14, kr25_15, kr25_16, kr34_1, kr34_2, kr37_1, kr37_2, kr40_1, kr40_2, kr43_2, kr43_3, kr44_0, kr44_1, kr44_4, kr46_0, kr48_0, kr50_0, kr52_0, kr54_0, kr56_0, kr60_3, kr60_4, kr63_0, kr63_1, kr63_2, kr66_0, kr66_1, kr66_2, kr66_3, kr66_4, kr67_0, kr70_0, kr70_1, kr70_2, kr72_1, kr72_2, kr72_3, kr72_4, kr72_5, kr72_6, kr72_7, kl2, kl3, kl4, kl5, kl6, kl8, kl9, kl10, kl11, kl12, kl13, kl14, kl15, kl17, kl18, kl20, kl21, kl23, kl24, kl26, kl27, kl28, kl29, kl30, kl31, kl32, kl33, kl35, kl36, kl38, kl39, kl41, kl42, kl45, kl47, kl49, kl51, kl53, kl55, kl57, kl58, kl59, kl61, kl62, kl64, kl65, kl68, kl69, kl71, kl73, kl74, kl75, kl76, e]
    rw [m1]
    unfold f_X8_cutWord_62 f_X8_cutWord_79
    simp (disch := omega) only [↓reduceIte, kz_lt, Option.bind_some, kz_ix, kz_leT, kz_leF, kz_ltT, kz_ltF, kz_lt0, kz_0le, kz_0ltT, kz_le0F, kz_eq0F, kz_10, kz_00, kz_11, kz_01, nI_clamp, nI_1, nI_add, pk_mul, kn2, kn3, kn4, kn5, kn6, kn7, kn8, kn9, kn10, kn16, kn20, kn24, kn30, kn32, kn36, kn40, kn41, kn42, kn48, kn54, kn60, kn61, kn64, kn69, kn70, kn99, kn100, kc0, kc1, kc2, kc3, kc4, kc5, kc6, kc7, kc8, kc9, kc10, kx0, kx1, kx2, kx3, kx4, kx5, kx6, kx7, kx8, kr0_0, kr0_1, kr0_2, kr0_3, kr0_4, kr0_5, kr0_6, kr0_7, kr0_8, kr0_9, kr1_1, kr1_2, kr1_3, kr1_4, kr1_5, kr7_6, kr7_7, kr7_8, kr7_9, kr7_10, kr7_11, kr7_12, kr7_13, kr7_14, kr7_15, kr7_16, kr16_1, kr16_2, kr19_1, kr19_2, kr22_1, kr22_2, kr25_6, kr25_7, kr25_8, kr25_9, kr25_10, kr25_11, kr25_12, kr25_13, kr25_14, kr25_15, kr25_16, kr34_1, kr34_2, kr37_1, kr37_2, kr40_1, kr40_2, kr43_2, kr43_3, kr44_0, kr44_1, kr44_4, kr46_0, kr48_0, kr50_0, kr52_0, kr54_0, kr56_0, kr60_3, kr60_4, kr63_0, kr63_1, kr63_2, kr66_0, kr66_1, kr66_2, kr66_3, kr66_4, kr67_0, kr70_0, kr70_1, kr70_2, kr72_1, kr72_2, kr72_3, kr72_4, kr72_5, kr72_6, kr72_7, kl2, kl3, kl4, kl5, kl6, kl8, kl9, kl10, kl11, kl12, kl13, kl14, kl15, kl17, kl18, kl20, kl21, kl23, kl24, kl26, kl27, kl28, kl29, kl30, kl31, kl32, kl33, kl35, kl36, kl38, kl39, kl41, kl42, kl45, kl47, kl49, kl51, kl53, kl55, kl57, kl58, kl59, kl61, kl62, kl64, kl65, kl68, kl69, kl71, kl73, kl74, kl75, kl76, m3, e6]
    show f_X8_cutWord_84_s _ 1 0 _ = _
    unfold f_X8_cutWord_84_s
    rw [if_neg (show ¬ nI (kf_ln (kf_rf 1 2)) ≤ (0 : Int32) by decide), kp_wi_same, if_neg (by decide)]
theorem kx_t64 : ∀ m, m < 10 → Int32.toInt64 (nI m) = Int64.ofNat m := by decide +kernel
theorem kC_numb {X : kx_X} {σ : kf_St} (h : kx_TC X σ) {i : Nat} (hi : i ≤ X.1) (e : σ.1 1 6 = nI i) (ev : σ.2 1 8 = 0) : ∃ τ, f_X8_cutNumber 1 σ = some τ ∧ kx_fr kx_tP kx_tQ σ τ ∧ τ.1 1 6 = nI (kx_en kx_di X i) ∧ τ.1 1 7 = nI (if kx_en kx_di X i - i ≤ 4 then 3 else 1) ∧ τ.2 1 8 = Int64.ofNat (kx_nv X (kx_en kx_di X i - i) i 0) := by
  have hl := h.1
  have main : ∃ τ, f_X8_cutNumber_5 kf_F 1 (nI i) σ = f_X8_cutNumber_68 1 (nI i) τ ∧ kx_fr kx_tP kx_tQ σ τ ∧ τ.1 1 6 = nI (kx_en kx_di X i) ∧ τ.2 1 8 = Int64.ofNat (kx_nv X (kx_en kx_di X i - i) i 0) := by
    refine kp_ind (n := X.1) (P := fun j f => ∀ τ a, kx_fr kx_tP kx_tQ σ τ → τ.1 1 6 = nI j → τ.2 1 8 = Int64.ofNat a → ∃ τ', f_X8_cutNumber_5 f 1 (nI i) τ = f_X8_cutNumber_68 1 (nI i) τ' ∧ kx_fr kx_tP kx_tQ σ τ' ∧ τ'.1 1 6 = nI (kx_en kx_di X j) ∧ τ'.2 1 8 = Int64.ofNat (kx_nv X (kx_en kx_di X j - j) j a)) (fun f τ a cc e ea => ?_) (fun j hj f ih τ a cc e ea => ?_) (X.1 - i) i (by omega) kf_F (kf_F_gt (by omega)) σ 0 kx_fr.rf e (by rw [ev]; rfl)
    · refine ⟨τ, ?_, cc, by rw [kx_en_f (fun q => absurd q (Nat.lt_irrefl _))]; exact e, by rw [kx_en_f (fun q => absurd q (Nat.lt_irrefl _)), Nat.sub_self]; exact ea⟩
      show f_X8_cutNumber_5_s _ 1 (nI i) τ = _
      unfold f_X8_cutNumber_5_s
      simp (disch := omega) only [↓reduceIte, kz_lt, Option.bind_some, kz_ix, kz_leT, kz_leF, kz_ltT, kz_ltF, kz_lt0, kz_0le, kz_0ltT, kz_le0F, kz_eq0F, kz_10, kz_00, kz_11, kz_01, nI_clamp, nI_1, nI_add, pk_mul, kc0, kc1, kc2, kc3, kc4, kc5, kc6, kc7, kc8, kc9, kc10, kx0, kx1, kx2, kx3, kx4, kx5, kx6, kx7, kx8, kr0_0, kr0_1, kr0_2, kr0_3, kr0_4, kr0_5, kr0_6, kr0_7, kr0_8, kr0_9, kr1_1, kr1_2, kr1_3, kr1_4, kr1_5, kr7_6, kr7_7, kr7_8, kr7_9, kr7_10, kr7_11, kr7_12, kr7_13, kr7_14, kr7_15, kr7_16, kr16_1, kr16_2, kr19_1, kr19_2, kr22_1, kr22_2, kr25_6, kr25_7, kr25_8, kr25_9, kr25_10, kr25_11, kr25_12, kr25_13, kr25_14, kr25_15, kr25_16, kr34_1, kr34_2, kr37_1, kr37_2, kr40_1, kr40_2, kr43_2, kr43_3, kr44_0, kr44_1, kr44_4, kr46_0, kr48_0, kr50_0, kr52_0, kr54_0, kr56_0, kr60_3, kr60_4, kr63_0, kr63_1, kr63_2, kr66_0, kr66_1, kr66_2, kr66_3, kr66_4, kr67_0, kr70_0, kr70_1, kr70_2, kr72_1, kr72_2, kr72_3, kr72_4, kr72_5, kr72_6, kr72_7, kl2, kl3, kl4, kl5, kl6, kl8, kl9, kl10, kl11, kl12, kl13, kl14, kl15, kl17, kl18, kl20, kl21, kl23, kl24, kl26, kl27, kl28, kl29, kl30, kl31, kl32, kl33, kl35, kl36, kl38, kl39, kl41, kl42, kl45, kl47, kl49, kl51, kl53, kl55, kl57, kl58, kl59, kl61, kl62, kl64, kl65, kl68, kl69, kl71, kl73, kl74, kl75, kl76, e, (h.t cc).2.1]
    · have h' := h.t cc
      have by1 := kC_byt h' (i := j) (by omega)
      rw [if_pos hj] at by1
      by_cases b : kx_di (X.2 j) = true
      · have dg := kx_di_t.mp b
        have ed : (10 : Int64) * Int64.ofNat a + Int32.toInt64 (nI (X.2 j) - 48) = Int64.ofNat (10 * a + (X.2 j - 48)) := by
          rw [show nI (X.2 j) - 48 = nI (X.2 j - 48) from pk_sub (b := 48) dg.1, kx_t64 _ (by omega), Int64.ofNat_add, Int64.ofNat_mul]
          rfl
        obtain ⟨τ', r1, r2, r3, r4⟩ := ih (kf_wi (kf_wl τ 1 8 (Int64.ofNat (10 * a + (X.2 j - 48)))) 1 6 (nI (j + 1))) (10 * a + (X.2 j - 48)) ((cc.wl (by unfold kx_tQ; omega)).wi (by unfold kx_tP; omega)) (kp_wi_same _ _ _ _) (kp_wl_same τ 1 8 _)
        have g := kx_en_gt hj b
        refine ⟨τ', ?_, r2, by rw [kx_en_t hj b]; exact r3, ?_⟩
        · show f_X8_cutNumber_5_s _ 1 (nI i) τ = _
          unfold f_X8_cutNumber_5_s
          simp (disch := omega) only [↓reduceIte, kz_lt, Option.bind_some, kz_ix, kz_leT, kz_leF, kz_ltT, kz_ltF, kz_lt0, kz_0le, kz_0ltT, kz_le0F, kz_eq0F, kz_10, kz_00, kz_11, kz_01, nI_clamp, nI_1, nI_add, pk_mul, kc0, kc1, kc2, kc3, kc4, kc5, kc6, kc7, kc8, kc9, kc10, kx0, kx1, kx2, kx3, kx4, kx5, kx6, kx7, kx8, kr0_0, kr0_1, kr0_2, kr0_3, kr0_4, kr0_5, kr0_6, kr0_7, kr0_8, kr0_9, kr1_1, kr1_2, kr1_3, kr1_4, kr1_5, kr7_6, kr7_7, kr7_8, kr7_9, kr7_10, kr7_11, kr7_12, kr7_13, kr7_14, kr7_15, kr7_16, kr16_1, kr16_2, kr19_1, kr19_2, kr22_1, kr22_2, kr25_6, kr25_7, kr25_8, kr25_9, kr25_10, kr25_11, kr25_12, kr25_13, kr25_14, kr25_15, kr25_16, kr34_1, kr34_2, kr37_1, kr37_2, kr40_1, kr40_2, kr43_2, kr43_3, kr44_0, kr44_1, kr44_4, kr46_0, kr48_0, kr50_0, kr52_0, kr54_0, kr56_0, kr60_3, kr60_4, kr63_0, kr63_1, kr63_2, kr66_0, kr66_1, kr66_2, kr66_3, kr66_4, kr67_0, kr70_0, kr70_1, kr70_2, kr72_1, kr72_2, kr72_3, kr72_4, kr72_5, kr72_6, kr72_7, kl2, kl3, kl4, kl5, kl6, kl8, kl9, kl10, kl11, kl12, kl13, kl14, kl15, kl17, kl18, kl20, kl21, kl23, kl24, kl26, kl27, kl28, kl29, kl30, kl31, kl32, kl33, kl35, kl36, kl38, kl39, kl41, kl42, kl45, kl47, kl49, kl51, kl53, kl55, kl57, kl58, kl59, kl61, kl62, kl64, kl65, kl68, kl69, kl71, kl73, kl74, kl75, kl76, e, h'.2.1, by1, kx_isD_X8 (h'.2.2.2.1 j), kx_b1t b, ea, ed, kp_wl_1]
          exact r1
        · rw [kx_en_t hj b] at g ⊢
          rw [r4, show kx_en kx_di X (j + 1) - j = (kx_en kx_di X (j + 1) - (j + 1)) + 1 by omega]
          rfl
      · refine ⟨τ, ?_, cc, by rw [kx_en_f (fun _ => b)]; exact e, by rw [kx_en_f (fun _ => b), Nat.sub_self]; exact ea⟩
        show f_X8_cutNumber_5_s _ 1 (nI i) τ = _
        unfold f_X8_cutNumber_5_s
        simp (disch := omega) only [↓reduceIte, kz_lt, Option.bind_some, kz_ix, kz_leT, kz_leF, kz_ltT, kz_ltF, kz_lt0, kz_0le, kz_0ltT, kz_le0F, kz_eq0F, kz_10, kz_00, kz_11, kz_01, nI_clamp, nI_1, nI_add, pk_mul, kc0, kc1, kc2, kc3, kc4, kc5, kc6, kc7, kc8, kc9, kc10, kx0, kx1, kx2, kx3, kx4, kx5, kx6, kx7, kx8, kr0_0, kr0_1, kr0_2, kr0_3, kr0_4, kr0_5, kr0_6, kr0_7, kr0_8, kr0_9, kr1_1, kr1_2, kr1_3, kr1_4, kr1_5, kr7_6, kr7_7, kr7_8, kr7_9, kr7_10, kr7_11, kr7_12, kr7_13, kr7_14, kr7_15, kr7_16, kr16_1, kr16_2, kr19_1, kr19_2, kr22_1, kr22_2, kr25_6, kr25_7, kr25_8, kr25_9, kr25_10, kr25_11, kr25_12, kr25_13, kr25_14, kr25_15, kr25_16, kr34_1, kr34_2, kr37_1, kr37_2, kr40_1, kr40_2, kr43_2, kr43_3, kr44_0, kr44_1, kr44_4, kr46_0, kr48_0, kr50_0, kr52_0, kr54_0, kr56_0, kr60_3, kr60_4, kr63_0, kr63_1, kr63_2, kr66_0, kr66_1, kr66_2, kr66_3, kr66_4, kr67_0, kr70_0, kr70_1, kr70_2, kr72_1, kr72_2, kr72_3, kr72_4, kr72_5, kr72_6, kr72_7, kl2, kl3, kl4, kl5, kl6, kl8, kl9, kl10, kl11, kl12, kl13, kl14, kl15, kl17, kl18, kl20, kl21, kl23, kl24, kl26, kl27, kl28, kl29, kl30, kl31, kl32, kl33, kl35, kl36, kl38, kl39, kl41, kl42, kl45, kl47, kl49, kl51, kl53, kl55, kl57, kl58, kl59, kl61, kl62, kl64, kl65, kl68, kl69, kl71, kl73, kl74, kl75, kl76, e, h'.2.1, by1, kx_isD_X8 (h'.2.2.2.1 j), kx_b1f b]
  obtain ⟨τ, m1, m2, m3, m4⟩ := main
  have g1 := kx_en_ge kx_di X i
  have g2 := kx_en_le (p := kx_di) hi
  have e6 : nI (kx_en kx_di X i) - nI i = nI (kx_en kx_di X i - i) := pk_sub g1
  refine ⟨kf_wi τ 1 7 (nI (if kx_en kx_di X i - i ≤ 4 then 3 else 1)), ?_, m2.wi (by unfold kx_tP; omega), by rw [kp_wi_ne (by omega)]; exact m3, kp_wi_same _ _ _ _, m4⟩
  unfold f_X8_cutNumber
  simp (disch := omega) only [↓reduceIte, kz_lt, Option.bind_some, kz_ix, kz_leT, kz_leF, kz_ltT, kz_ltF, kz_lt0, kz_0le, kz_0ltT, kz_le0F, kz_eq0F, kz_10, kz_00, kz_11, kz_01, nI_clamp, nI_1, nI_add, pk_mul, kc0, kc1, kc2, kc3, kc4, kc5, kc6, kc7, kc8, kc9, kc10, kx0, kx1, kx2, kx3, kx4, kx5, kx6, kx7, kx8, kr0_0, kr0_1, kr0_2, kr0_3, kr0_4, kr0_5, kr0_6, kr0_7, kr0_8, kr0_9, kr1_1, kr1_2, kr1_3, kr1_4, kr1_5, kr7_6, kr7_7, kr7_8, kr7_9, kr7_10, kr7_11, kr7_12, kr7_13, kr7_14, kr7_15, kr7_16, kr16_1, kr16_2, kr19_1, kr19_2, kr22_1, kr22_2, kr25_6, kr25_7, kr25_8, kr25_9, kr25_10, kr25_11, kr25_12, kr25_13, kr25_14, kr25_15, kr25_16, kr34_1, kr34_2, kr37_1, kr37_2, kr40_1, kr40_2, kr43_2, kr43_3, kr44_0, kr44_1, kr44_4, kr46_0, kr48_0, kr50_0, kr52_0, kr54_0, kr56_0, kr60_3, kr60_4, kr63_0, kr63_1, kr63_2, kr66_0, kr66_1, kr66_2, kr66_3, kr66_4, kr67_0, kr70_0, kr70_1, kr70_2, kr72_1, kr72_2, kr72_3, kr72_4, kr72_5, kr72_6, kr72_7, kl2, kl3, kl4, kl5, kl6, kl8, kl9, kl10, kl11, kl12, kl13, kl14, kl15, kl17, kl18, kl20, kl21, kl23, kl24, kl26, kl27, kl28, kl29, kl30, kl31, kl32, kl33, kl35, kl36, kl38, kl39, kl41, kl42, kl45, kl47, kl49, kl51, kl53, kl55, kl57, kl58, kl59, kl61, kl62, kl64, kl65, kl68, kl69, kl71, kl73, kl74, kl75, kl76, e]
  rw [m1]
  unfold f_X8_cutNumber_68 f_X8_cutNumber_84
  rw [m3, e6]
  by_cases b : kx_en kx_di X i - i ≤ 4
  · rw [if_pos b, if_pos (show nI _ ≤ (4 : Int32) from nI_le (b := 4) b (by decide))]
    rfl
  · rw [if_neg b, if_neg (show ¬ nI _ ≤ (4 : Int32) from nI_ge (a := 4) (by omega) (by omega))]
    rfl
/-! signs -/
theorem kx_j7 : ∀ n (v0 : Nat) (v3 v4 v5 : Int32) (σ : kf_St), f_J1_indexOfChar_4cfef_7 n v0 v3 v4 v5 σ = (f_J1_indexOfChar_4cfef_7 n v0 v3 v4 v5 kf_zero).map (fun q => (q.1, σ))
  | 0, _, _, _, _, _ => rfl
  | n + 1, v0, v3, v4, v5, σ => by
    show f_J1_indexOfChar_4cfef_7_s _ v0 v3 v4 v5 σ = (f_J1_indexOfChar_4cfef_7_s _ v0 v3 v4 v5 kf_zero).map _
    unfold f_J1_indexOfChar_4cfef_7_s
    by_cases h1 : v3 ≤ v5
    · rw [if_pos h1, if_pos h1]; rfl
    rw [if_neg h1, if_neg h1]
    by_cases h2 : kf_ix v5 (kf_len.getD v0 0) = true
    · rw [if_pos h2, if_pos h2]
      by_cases h3 : (kf_byt.getD v0 []).getD (Int32.toNatClampNeg v5) 0 = v4
      · rw [if_pos h3, if_pos h3]; rfl
      · rw [if_neg h3, if_neg h3]
        exact kx_j7 n v0 v3 v4 (v5 + 1) σ
    · rw [if_neg h2, if_neg h2]; rfl
theorem kx_jx (x : Int32) (σ : kf_St) : f_J0_indexOf_0f7a4 1 x σ = (f_J0_indexOf_0f7a4 1 x kf_zero).map (fun q => (q.1, σ)) := by
  unfold f_J0_indexOf_0f7a4 f_J0_indexOf_7cf53 f_J1_indexOf_4cfef f_J1_canEncode_9a6ad f_J1_indexOfChar_4cfef
  by_cases h1 : x < 0
  · rw [if_pos h1, if_pos h1]; rfl
  rw [if_neg h1, if_neg h1]
  by_cases h2 : 255 < x
  · rw [if_pos h2, if_pos h2]; rfl
  rw [if_neg h2, if_neg h2]
  simp only [Option.bind_some, kf_lt, kz_10, if_false]
  rw [kx_j7]
  by_cases h3 : (if (0 : Int32) < 0 then (0 : Int32) else 0) < (if nI (kf_len.getD 1 0) < nI (kf_len.getD 1 0) >>> (0 &&& 31) then nI (kf_len.getD 1 0) else nI (kf_len.getD 1 0) >>> (0 &&& 31))
  · rw [if_pos h3, if_pos h3]
    cases f_J1_indexOfChar_4cfef_7 kf_F 1 _ _ _ kf_zero <;> rfl
  · rw [if_neg h3, if_neg h3]; rfl
theorem kx_js_all : ∀ n, n < 256 → (f_J0_indexOf_0f7a4 1 (Int32.toUInt32 (nI n) % 65536).toInt32 kf_zero).map (fun q => decide (q.1 < 0)) = some (!kx_sg n) := by decide +kernel
theorem kx_js {n : Nat} (hn : n < 256) (σ : kf_St) : ∃ r, f_J0_indexOf_0f7a4 1 (Int32.toUInt32 (nI n) % 65536).toInt32 σ = some (r, σ) ∧ (r < 0 ↔ ¬ kx_sg n = true) := by
  have a := kx_js_all n hn
  rw [kx_jx]
  cases e : f_J0_indexOf_0f7a4 1 (Int32.toUInt32 (nI n) % 65536).toInt32 kf_zero with
  | none => rw [e] at a; cases a
  | some q =>
    rw [e] at a
    have a' : decide (q.1 < 0) = !kx_sg n := Option.some.inj a
    refine ⟨q.1, rfl, ?_⟩
    rw [← decide_eq_true_iff (p := q.1 < 0), a']
    cases kx_sg n <;> decide
theorem kC_one {X : kx_X} {σ : kf_St} (h : kx_TC X σ) {i : Nat} (hi : i ≤ X.1) (e : σ.1 1 6 = nI i) : ∃ τ, f_X8_cutOne 1 σ = some τ ∧ kx_fr kx_tP kx_tQ σ τ ∧ τ.1 1 6 = nI (kx_to X i).2.1 ∧ τ.1 1 7 = nI (kx_to X i).1 ∧ τ.2 1 8 = (kx_to X i).2.2.1 := by
  have hl := h.1
  have by1 := kC_byt h (i := i) (by omega)
  have fl : kx_fr kx_tP kx_tQ σ (kf_wl σ 1 8 0) := kx_fr.rf.wl (by unfold kx_tQ; omega)
  have hw := h.t fl
  unfold f_X8_cutOne
  rcases kx_to_cs X i with ⟨h1, q⟩ | ⟨h1, h2, q⟩ | ⟨h1, h2, h3, q⟩ | ⟨h1, h2, h3, q⟩
  · rw [if_neg h1] at by1
    refine ⟨kf_wi (kf_wl σ 1 8 0) 1 7 0, ?_, fl.wi (by unfold kx_tP; omega), ?_, ?_, ?_⟩
    · simp (disch := omega) only [↓reduceIte, kz_lt, Option.bind_some, kz_ix, kz_leT, kz_leF, kz_ltT, kz_ltF, kz_lt0, kz_0le, kz_0ltT, kz_le0F, kz_eq0F, kz_10, kz_00, kz_11, kz_01, nI_clamp, nI_1, nI_add, pk_mul, kc0, kc1, kc2, kc3, kc4, kc5, kc6, kc7, kc8, kc9, kc10, kx0, kx1, kx2, kx3, kx4, kx5, kx6, kx7, kx8, kr0_0, kr0_1, kr0_2, kr0_3, kr0_4, kr0_5, kr0_6, kr0_7, kr0_8, kr0_9, kr1_1, kr1_2, kr1_3, kr1_4, kr1_5, kr7_6, kr7_7, kr7_8, kr7_9, kr7_10, kr7_11, kr7_12, kr7_13, kr7_14, kr7_15, kr7_16, kr16_1, kr16_2, kr19_1, kr19_2, kr22_1, kr22_2, kr25_6, kr25_7, kr25_8, kr25_9, kr25_10, kr25_11, kr25_12, kr25_13, kr25_14, kr25_15, kr25_16, kr34_1, kr34_2, kr37_1, kr37_2, kr40_1, kr40_2, kr43_2, kr43_3, kr44_0, kr44_1, kr44_4, kr46_0, kr48_0, kr50_0, kr52_0, kr54_0, kr56_0, kr60_3, kr60_4, kr63_0, kr63_1, kr63_2, kr66_0, kr66_1, kr66_2, kr66_3, kr66_4, kr67_0, kr70_0, kr70_1, kr70_2, kr72_1, kr72_2, kr72_3, kr72_4, kr72_5, kr72_6, kr72_7, kl2, kl3, kl4, kl5, kl6, kl8, kl9, kl10, kl11, kl12, kl13, kl14, kl15, kl17, kl18, kl20, kl21, kl23, kl24, kl26, kl27, kl28, kl29, kl30, kl31, kl32, kl33, kl35, kl36, kl38, kl39, kl41, kl42, kl45, kl47, kl49, kl51, kl53, kl55, kl57, kl58, kl59, kl61, kl62, kl64, kl65, kl68, kl69, kl71, kl73, kl74, kl75, kl76, e, by1]
    · rw [q, kp_wi_ne (by omega)]; exact e
    · rw [q, kp_wi_same]; rfl
    · rw [q]; exact kp_wl_same σ 1 8 0
  · rw [if_pos h1] at by1
    have n1 : ¬ nI (X.2 i) = -1 := kp_se1 (by have := h.2.2.2.1 i; omega)
    obtain ⟨τ, w1, w2, w3, w4, w5⟩ := kC_word hw hi e (kp_wl_same _ _ _ _)
    refine ⟨τ, ?_, fl.tr w2, by rw [q]; exact w3, by rw [q]; exact w4, by rw [q]; exact w5⟩
    simp (disch := omega) only [↓reduceIte, kz_lt, Option.bind_some, kz_ix, kz_leT, kz_leF, kz_ltT, kz_ltF, kz_lt0, kz_0le, kz_0ltT, kz_le0F, kz_eq0F, kz_10, kz_00, kz_11, kz_01, nI_clamp, nI_1, nI_add, pk_mul, kc0, kc1, kc2, kc3, kc4, kc5, kc6, kc7, kc8, kc9, kc10, kx0, kx1, kx2, kx3, kx4, kx5, kx6, kx7, kx8, kr0_0, kr0_1, kr0_2, kr0_3, kr0_4, kr0_5, kr0_6, kr0_7, kr0_8, kr0_9, kr1_1, kr1_2, kr1_3, kr1_4, kr1_5, kr7_6, kr7_7, kr7_8, kr7_9, kr7_10, kr7_11, kr7_12, kr7_13, kr7_14, kr7_15, kr7_16, kr16_1, kr16_2, kr19_1, kr19_2, kr22_1, kr22_2, kr25_6, kr25_7, kr25_8, kr25_9, kr25_10, kr25_11, kr25_12, kr25_13, kr25_14, kr25_15, kr25_16, kr34_1, kr34_2, kr37_1, kr37_2, kr40_1, kr40_2, kr43_2, kr43_3, kr44_0, kr44_1, kr44_4, kr46_0, kr48_0, kr50_0, kr52_0, kr54_0, kr56_0, kr60_3, kr60_4, kr63_0, kr63_1, kr63_2, kr66_0, kr66_1, kr66_2, kr66_3, kr66_4, kr67_0, kr70_0, kr70_1, kr70_2, kr72_1, kr72_2, kr72_3, kr72_4, kr72_5, kr72_6, kr72_7, kl2, kl3, kl4, kl5, kl6, kl8, kl9, kl10, kl11, kl12, kl13, kl14, kl15, kl17, kl18, kl20, kl21, kl23, kl24, kl26, kl27, kl28, kl29, kl30, kl31, kl32, kl33, kl35, kl36, kl38, kl39, kl41, kl42, kl45, kl47, kl49, kl51, kl53, kl55, kl57, kl58, kl59, kl61, kl62, kl64, kl65, kl68, kl69, kl71, kl73, kl74, kl75, kl76, e, by1, n1, kx_isL_X8 (h.2.2.2.1 i), kx_b1t h2, w1]
  · rw [if_pos h1] at by1
    have n1 : ¬ nI (X.2 i) = -1 := kp_se1 (by have := h.2.2.2.1 i; omega)
    obtain ⟨τ, w1, w2, w3, w4, w5⟩ := kC_numb hw hi e (kp_wl_same _ _ _ _)
    refine ⟨τ, ?_, fl.tr w2, by rw [q]; exact w3, by rw [q]; exact w4, by rw [q]; exact w5⟩
    simp (disch := omega) only [↓reduceIte, kz_lt, Option.bind_some, kz_ix, kz_leT, kz_leF, kz_ltT, kz_ltF, kz_lt0, kz_0le, kz_0ltT, kz_le0F, kz_eq0F, kz_10, kz_00, kz_11, kz_01, nI_clamp, nI_1, nI_add, pk_mul, kc0, kc1, kc2, kc3, kc4, kc5, kc6, kc7, kc8, kc9, kc10, kx0, kx1, kx2, kx3, kx4, kx5, kx6, kx7, kx8, kr0_0, kr0_1, kr0_2, kr0_3, kr0_4, kr0_5, kr0_6, kr0_7, kr0_8, kr0_9, kr1_1, kr1_2, kr1_3, kr1_4, kr1_5, kr7_6, kr7_7, kr7_8, kr7_9, kr7_10, kr7_11, kr7_12, kr7_13, kr7_14, kr7_15, kr7_16, kr16_1, kr16_2, kr19_1, kr19_2, kr22_1, kr22_2, kr25_6, kr25_7, kr25_8, kr25_9, kr25_10, kr25_11, kr25_12, kr25_13, kr25_14, kr25_15, kr25_16, kr34_1, kr34_2, kr37_1, kr37_2, kr40_1, kr40_2, kr43_2, kr43_3, kr44_0, kr44_1, kr44_4, kr46_0, kr48_0, kr50_0, kr52_0, kr54_0, kr56_0, kr60_3, kr60_4, kr63_0, kr63_1, kr63_2, kr66_0, kr66_1, kr66_2, kr66_3, kr66_4, kr67_0, kr70_0, kr70_1, kr70_2, kr72_1, kr72_2, kr72_3, kr72_4, kr72_5, kr72_6, kr72_7, kl2, kl3, kl4, kl5, kl6, kl8, kl9, kl10, kl11, kl12, kl13, kl14, kl15, kl17, kl18, kl20, kl21, kl23, kl24, kl26, kl27, kl28, kl29, kl30, kl31, kl32, kl33, kl35, kl36, kl38, kl39, kl41, kl42, kl45, kl47, kl49, kl51, kl53, kl55, kl57, kl58, kl59, kl61, kl62, kl64, kl65, kl68, kl69, kl71, kl73, kl74, kl75, kl76, e, by1, n1, kx_isL_X8 (h.2.2.2.1 i), kx_b1f h2, kx_isD_X8 (h.2.2.2.1 i), kx_b1t h3, w1]
  · rw [if_pos h1] at by1
    have n1 : ¬ nI (X.2 i) = -1 := kp_se1 (by have := h.2.2.2.1 i; omega)
    obtain ⟨r, j1, j2⟩ := kx_js (h.2.2.2.1 i) (kf_wl σ 1 8 0)
    refine ⟨kf_wi (kf_wi (kf_wl σ 1 8 0) 1 7 (nI (if kx_sg (X.2 i) then X.2 i else 1))) 1 6 (nI (i + 1)), ?_, (fl.wi (by unfold kx_tP; omega)).wi (by unfold kx_tP; omega), ?_, ?_, ?_⟩
    · unfold f_X8_cutOne_71
      simp (disch := omega) only [↓reduceIte, kz_lt, Option.bind_some, kz_ix, kz_leT, kz_leF, kz_ltT, kz_ltF, kz_lt0, kz_0le, kz_0ltT, kz_le0F, kz_eq0F, kz_10, kz_00, kz_11, kz_01, nI_clamp, nI_1, nI_add, pk_mul, kc0, kc1, kc2, kc3, kc4, kc5, kc6, kc7, kc8, kc9, kc10, kx0, kx1, kx2, kx3, kx4, kx5, kx6, kx7, kx8, kr0_0, kr0_1, kr0_2, kr0_3, kr0_4, kr0_5, kr0_6, kr0_7, kr0_8, kr0_9, kr1_1, kr1_2, kr1_3, kr1_4, kr1_5, kr7_6, kr7_7, kr7_8, kr7_9, kr7_10, kr7_11, kr7_12, kr7_13, kr7_14, kr7_15, kr7_16, kr16_1, kr16_2, kr19_1, kr19_2, kr22_1, kr22_2, kr25_6, kr25_7, kr25_8, kr25_9, kr25_10, kr25_11, kr25_12, kr25_13, kr25_14, kr25_15, kr25_16, kr34_1, kr34_2, kr37_1, kr37_2, kr40_1, kr40_2, kr43_2, kr43_3, kr44_0, kr44_1, kr44_4, kr46_0, kr48_0, kr50_0, kr52_0, kr54_0, kr56_0, kr60_3, kr60_4, kr63_0, kr63_1, kr63_2, kr66_0, kr66_1, kr66_2, kr66_3, kr66_4, kr67_0, kr70_0, kr70_1, kr70_2, kr72_1, kr72_2, kr72_3, kr72_4, kr72_5, kr72_6, kr72_7, kl2, kl3, kl4, kl5, kl6, kl8, kl9, kl10, kl11, kl12, kl13, kl14, kl15, kl17, kl18, kl20, kl21, kl23, kl24, kl26, kl27, kl28, kl29, kl30, kl31, kl32, kl33, kl35, kl36, kl38, kl39, kl41, kl42, kl45, kl47, kl49, kl51, kl53, kl55, kl57, kl58, kl59, kl61, kl62, kl64, kl65, kl68, kl69, kl71, kl73, kl74, kl75, kl76, e, by1, n1, kx_isL_X8 (h.2.2.2.1 i), kx_b1f h2, kx_isD_X8 (h.2.2.2.1 i), kx_b1f h3, j1, kz_col, kp_wl_1]
      by_cases b : kx_sg (X.2 i) = true
      · rw [if_neg (fun z => j2.mp z b), if_pos b]
      · rw [if_pos (j2.mpr b), if_neg b]
        rfl
    · rw [q, kp_wi_same]
    · rw [q, kp_wi_ne (by omega), kp_wi_same]
    · rw [q]; exact kp_wl_same σ 1 8 0
def kx_aC (X : kx_X) (j : Nat) (τ : kf_St) : Prop := τ.1 4 j = nI (kx_K X j) ∧ τ.1 5 j = nI (kx_P X j) ∧ τ.2 6 j = kx_V X j
def kx_cP (a b : Nat) : Prop := (a = 1 ∧ (b = 6 ∨ b = 7)) ∨ a = 4 ∨ a = 5
def kx_cQ (a b : Nat) : Prop := (a = 1 ∧ b = 8) ∨ a = 6
theorem kx_vk_lt {k : Nat} (h : kx_vk k) : k < 277 := by
  rcases h with h | h | h
  · omega
  · have := kx_sg_t.mp h; omega
  · omega
theorem kC_cut {X : kx_X} {σ : kf_St} (h : kx_TC X σ) : ∃ τ, f_X8_cut 1 σ = some τ ∧ kx_fr kx_cP kx_cQ σ τ ∧ ∀ j, kx_ok X j → kx_aC X j τ := by
  have hl := h.1
  have f0 : kx_fr kx_cP kx_cQ σ (kf_wi (kf_wi σ 1 6 0) 1 7 2) := (kx_fr.rf.wi (by unfold kx_cP; omega)).wi (by unfold kx_cP; omega)
  have tc : ∀ τ, kx_fr kx_cP kx_cQ σ τ → kx_TC X τ := fun τ c => h.fr c (by unfold kx_cP; omega) (fun j => by unfold kx_cP; omega) (fun j => by unfold kx_cQ; omega)
  have tw : ∀ {a b : kf_St}, kx_fr kx_tP kx_tQ a b → kx_fr kx_cP kx_cQ a b := fun c => c.mono (fun a b e => by unfold kx_tP at e; unfold kx_cP; omega) (fun a b e => by unfold kx_tQ at e; unfold kx_cQ; omega)
  unfold f_X8_cut
  simp only [kf_lt]
  refine kp_run (n := 401) (fun n f => ∀ τ, kx_fr kx_cP kx_cQ σ τ → τ.1 1 6 = nI (kx_po X n) → (τ.1 1 7 = nI (if n = 0 then 2 else kx_K X (n - 1))) → (∀ j, j < n → kx_aC X j τ) → ∃ τ', f_X8_cut_12 f 1 (nI n) τ = some τ' ∧ kx_fr kx_cP kx_cQ σ τ' ∧ ∀ j, kx_ok X j → kx_aC X j τ') (by decide) (fun f τ cc e6 e7 ha => ?_) (fun n hn f ih τ cc e6 e7 ha => ?_) _ f0 (by rw [kp_wi_ne (by omega), kp_wi_same]; rfl) (kp_wi_same _ _ _ _) (fun j hj => absurd hj (Nat.not_lt_zero j))
  · refine ⟨τ, ?_, cc, fun j hj => ha j (by have := hj.1; omega)⟩
    show f_X8_cut_12_s _ 1 (nI 401) τ = _
    unfold f_X8_cut_12_s
    rfl
  · have kb : (if n = 0 then 2 else kx_K X (n - 1)) < 277 := by
      by_cases z : n = 0
      · rw [if_pos z]; decide
      · rw [if_neg z]; exact kx_vk_lt (kx_to_vk X _)
    by_cases st : (if n = 0 then 2 else kx_K X (n - 1)) = 0 ∨ (if n = 0 then 2 else kx_K X (n - 1)) = 1
    · refine ⟨τ, ?_, cc, fun j hj => ha j ?_⟩
      · show f_X8_cut_12_s _ 1 (nI n) τ = _
        unfold f_X8_cut_12_s
        rcases st with st | st
        · rw [e7, st]
          simp (disch := omega) only [↓reduceIte, kz_lt, Option.bind_some, kz_ix, kz_leT, kz_leF, kz_ltT, kz_ltF, kz_lt0, kz_0le, kz_0ltT, kz_le0F, kz_eq0F, kz_10, kz_00, kz_11, kz_01, nI_clamp, nI_1, nI_add, pk_mul, kc0, kc1, kc2, kc3, kc4, kc5, kc6, kc7, kc8, kc9, kc10, kx0, kx1, kx2, kx3, kx4, kx5, kx6, kx7, kx8, kr0_0, kr0_1, kr0_2, kr0_3, kr0_4, kr0_5, kr0_6, kr0_7, kr0_8, kr0_9, kr1_1, kr1_2, kr1_3, kr1_4, kr1_5, kr7_6, kr7_7, kr7_8, kr7_9, kr7_10, kr7_11, kr7_12, kr7_13, kr7_14, kr7_15, kr7_16, kr16_1, kr16_2, kr19_1, kr19_2, kr22_1, kr22_2, kr25_6, kr25_7, kr25_8, kr25_9, kr25_10, kr25_11, kr25_12, kr25_13, kr25_14, kr25_15, kr25_16, kr34_1, kr34_2, kr37_1, kr37_2, kr40_1, kr40_2, kr43_2, kr43_3, kr44_0, kr44_1, kr44_4, kr46_0, kr48_0, kr50_0, kr52_0, kr54_0, kr56_0, kr60_3, kr60_4, kr63_0, kr63_1, kr63_2, kr66_0, kr66_1, kr66_2, kr66_3, kr66_4, kr67_0, kr70_0, kr70_1, kr70_2, kr72_1, kr72_2, kr72_3, kr72_4, kr72_5, kr72_6, kr72_7, kl2, kl3, kl4, kl5, kl6, kl8, kl9, kl10, kl11, kl12, kl13, kl14, kl15, kl17, kl18, kl20, kl21, kl23, kl24, kl26, kl27, kl28, kl29, kl30, kl31, kl32, kl33, kl35, kl36, kl38, kl39, kl41, kl42, kl45, kl47, kl49, kl51, kl53, kl55, kl57, kl58, kl59, kl61, kl62, kl64, kl65, kl68, kl69, kl71, kl73, kl74, kl75, kl76]
          rfl
        · rw [e7, st]
          simp (disch := omega) only [↓reduceIte, kz_lt, Option.bind_some, kz_ix, kz_leT, kz_leF, kz_ltT, kz_ltF, kz_lt0, kz_0le, kz_0ltT, kz_le0F, kz_eq0F, kz_10, kz_00, kz_11, kz_01, nI_clamp, nI_1, nI_add, pk_mul, kc0, kc1, kc2, kc3, kc4, kc5, kc6, kc7, kc8, kc9, kc10, kx0, kx1, kx2, kx3, kx4, kx5, kx6, kx7, kx8, kr0_0, kr0_1, kr0_2, kr0_3, kr0_4, kr0_5, kr0_6, kr0_7, kr0_8, kr0_9, kr1_1, kr1_2, kr1_3, kr1_4, kr1_5, kr7_6, kr7_7, kr7_8, kr7_9, kr7_10, kr7_11, kr7_12, kr7_13, kr7_14, kr7_15, kr7_16, kr16_1, kr16_2, kr19_1, kr19_2, kr22_1, kr22_2, kr25_6, kr25_7, kr25_8, kr25_9, kr25_10, kr25_11, kr25_12, kr25_13, kr25_14, kr25_15, kr25_16, kr34_1, kr34_2, kr37_1, kr37_2, kr40_1, kr40_2, kr43_2, kr43_3, kr44_0, kr44_1, kr44_4, kr46_0, kr48_0, kr50_0, kr52_0, kr54_0, kr56_0, kr60_3, kr60_4, kr63_0, kr63_1, kr63_2, kr66_0, kr66_1, kr66_2, kr66_3, kr66_4, kr67_0, kr70_0, kr70_1, kr70_2, kr72_1, kr72_2, kr72_3, kr72_4, kr72_5, kr72_6, kr72_7, kl2, kl3, kl4, kl5, kl6, kl8, kl9, kl10, kl11, kl12, kl13, kl14, kl15, kl17, kl18, kl20, kl21, kl23, kl24, kl26, kl27, kl28, kl29, kl30, kl31, kl32, kl33, kl35, kl36, kl38, kl39, kl41, kl42, kl45, kl47, kl49, kl51, kl53, kl55, kl57, kl58, kl59, kl61, kl62, kl64, kl65, kl68, kl69, kl71, kl73, kl74, kl75, kl76]
          rfl
      · by_cases z : n = 0
        · rw [if_pos z] at st; omega
        · rw [if_neg z] at st
          by_cases q : j < n
          · exact q
          · have := hj.2 (n - 1) (by omega)
            rcases st with st | st
            · exact absurd st this.1
            · exact absurd st this.2
    · have n0 : ¬ nI (if n = 0 then 2 else kx_K X (n - 1)) = 0 := fun q => st (Or.inl ((nI_eq (b := 0) (by omega) (by decide)).mp q))
      have n1 : ¬ nI (if n = 0 then 2 else kx_K X (n - 1)) = 1 := fun q => st (Or.inr ((nI_eq (b := 1) (by omega) (by decide)).mp q))
      obtain ⟨τ1, a1, a2, a3⟩ := kC_skip (tc τ cc) (kx_po_le X n) e6
      have c1 := cc.tr (tw a2)
      have c2 : kx_fr kx_cP kx_cQ σ (kf_wi τ1 5 n (nI (kx_P X n))) := c1.wi (by unfold kx_cP; omega)
      obtain ⟨τ2, b1, b2, b3, b4, b5⟩ := kC_one (tc _ c2) (i := kx_P X n) (kx_P_le X n) (by rw [kp_wi_ne (by omega)]; exact a3)
      have c3 := c2.tr (tw b2)
      have c4 : kx_fr kx_cP kx_cQ σ (kf_wl (kf_wi τ2 4 n (nI (kx_K X n))) 6 n (kx_V X n)) := (c3.wi (by unfold kx_cP; omega)).wl (by unfold kx_cQ; omega)
      obtain ⟨τ', r1, r2⟩ := ih _ c4 (by rw [kp_wl_1, kp_wi_ne (by omega)]; exact b3) (by rw [kp_wl_1, kp_wi_ne (by omega), if_neg (Nat.succ_ne_zero n)]; exact b4) (fun j hj => by
        unfold kx_aC
        rw [kp_wl_1]
        by_cases z : j = n
        · subst z
          refine ⟨kp_wi_same _ _ _ _, ?_, kp_wl_same _ _ _ _⟩
          rw [kp_wi_ne (by omega), b2.1 5 j (by unfold kx_tP; omega), kp_wi_same]
        · obtain ⟨q1, q2, q3⟩ := ha j (by omega)
          refine ⟨?_, ?_, ?_⟩
          · rw [kp_wi_ne (by omega), b2.1 4 j (by unfold kx_tP; omega), kp_wi_ne (by omega), a2.1 4 j (by unfold kx_tP; omega)]; exact q1
          · rw [kp_wi_ne (by omega), b2.1 5 j (by unfold kx_tP; omega), kp_wi_ne (by omega), a2.1 5 j (by unfold kx_tP; omega)]; exact q2
          · rw [kp_wl_ne (by omega)]
            show τ2.2 6 j = _
            rw [b2.2 6 j (by unfold kx_tQ; omega)]
            show τ1.2 6 j = _
            rw [a2.2 6 j (by unfold kx_tQ; omega)]; exact q3)
      refine ⟨τ', ?_, r2⟩
      show f_X8_cut_12_s _ 1 (nI n) τ = _
      unfold f_X8_cut_12_s
      have v8 : (kf_wi τ2 4 n (nI (kx_K X n))).2 1 8 = kx_V X n := b5
      have b1' : f_X8_cutOne 1 (kf_wi τ1 5 n (nI (kx_P X n))) = some τ2 := b1
      have b4' : τ2.1 1 7 = nI (kx_K X n) := b4
      have a3' : τ1.1 1 6 = nI (kx_P X n) := a3
      simp (disch := omega) only [↓reduceIte, kz_lt, Option.bind_some, kz_ix, kz_leT, kz_leF, kz_ltT, kz_ltF, kz_lt0, kz_0le, kz_0ltT, kz_le0F, kz_eq0F, kz_10, kz_00, kz_11, kz_01, nI_clamp, nI_1, nI_add, pk_mul, kc0, kc1, kc2, kc3, kc4, kc5, kc6, kc7, kc8, kc9, kc10, kx0, kx1, kx2, kx3, kx4, kx5, kx6, kx7, kx8, kr0_0, kr0_1, kr0_2, kr0_3, kr0_4, kr0_5, kr0_6, kr0_7, kr0_8, kr0_9, kr1_1, kr1_2, kr1_3, kr1_4, kr1_5, kr7_6, kr7_7, kr7_8, kr7_9, kr7_10, kr7_11, kr7_12, kr7_13, kr7_14, kr7_15, kr7_16, kr16_1, kr16_2, kr19_1, kr19_2, kr22_1, kr22_2, kr25_6, kr25_7, kr25_8, kr25_9, kr25_10, kr25_11, kr25_12, kr25_13, kr25_14, kr25_15, kr25_16, kr34_1, kr34_2, kr37_1, kr37_2, kr40_1, kr40_2, kr43_2, kr43_3, kr44_0, kr44_1, kr44_4, kr46_0, kr48_0, kr50_0, kr52_0, kr54_0, kr56_0, kr60_3, kr60_4, kr63_0, kr63_1, kr63_2, kr66_0, kr66_1, kr66_2, kr66_3, kr66_4, kr67_0, kr70_0, kr70_1, kr70_2, kr72_1, kr72_2, kr72_3, kr72_4, kr72_5, kr72_6, kr72_7, kl2, kl3, kl4, kl5, kl6, kl8, kl9, kl10, kl11, kl12, kl13, kl14, kl15, kl17, kl18, kl20, kl21, kl23, kl24, kl26, kl27, kl28, kl29, kl30, kl31, kl32, kl33, kl35, kl36, kl38, kl39, kl41, kl42, kl45, kl47, kl49, kl51, kl53, kl55, kl57, kl58, kl59, kl61, kl62, kl64, kl65, kl68, kl69, kl71, kl73, kl74, kl75, kl76, e7, n0, n1, a1, a3', b1', b4', v8]
      exact r1
