/-! ===== pure: the class's passDay, become ===== -/
theorem kp_idlC {i t : Int32} (ht : t = 0 ∨ t = 1) : (if t = 0 then (if i + 1 < 999 then i + 1 else 999) else 0) = kp_idl i t := by
  unfold kp_idl
  rcases ht with rfl | rfl
  · rw [if_pos rfl, if_neg (show ¬ (0 : Int32) = 1 by decide)]
  · rw [if_neg (show ¬ (1 : Int32) = 0 by decide), if_pos rfl]
theorem kp_cD_f {σ : kf_St} {k : Nat} {D : kp_D} (h : kp_cD σ k = D) : (∀ q, q < 4 → σ.1 (k + 1) q = D.1 q) ∧ σ.1 k 1 = D.2.1 ∧ σ.1 k 2 = D.2.2.1 ∧ σ.1 k 3 = D.2.2.2.1 ∧ σ.1 k 4 = D.2.2.2.2.1 ∧ σ.1 k 5 = D.2.2.2.2.2 := by
  subst h
  exact ⟨fun q hq => (kp_cD_p hq).symm, rfl, rfl, rfl, rfl, rfl⟩
theorem kp_cD_cut {σ : kf_St} {k : Nat} : kd_cut (kp_cD σ k).1 = (kp_cD σ k).1 := kd_cut_cut _
theorem kp_pd121 {T : kp_T} {σ τ : kf_St} {k d dy : Nat} {D : kp_D} (hT : kp_Tok T) (h : kp_CT T τ) (hk : kp_isK k) (hd : d < kt_nd T) (hD : kp_Dok D) (e : kp_cD τ k = D) (hc : kp_ch (fun r => r = 64 ∨ r = 65 ∨ r = 18 ∨ r = 21 ∨ r = 24 ∨ r = k ∨ r = k + 1) σ τ) : ∃ σ', f_X4_passDay_121 63 k (nI d) (nI dy) τ = some σ' ∧ kp_ch (fun r => r = 64 ∨ r = 65 ∨ r = 18 ∨ r = 21 ∨ r = 24 ∨ r = k ∨ r = k + 1) σ σ' ∧ kp_cD σ' k = kp_id (kp_wr T d dy D) := by
  have hk3 := hk.2.2
  have h6 := hT.1.1
  obtain ⟨f0, -, -, -, -, f5⟩ := kp_cD_f e
  obtain ⟨σ2, b1, b2, b3⟩ := kp_moveBy (dy := nI dy) (w := d) (gf := kt_fi T d) h.2.2.2.2.2.2.1 hT.2.2.2.2.2.2.1 (Or.inr (Or.inl rfl)) hk (Or.inl rfl) (by show _ ≤ 24; omega) (fun q hq => h.2.2.1 d hd q hq) (fun q hq => by rw [f0 q hq]; exact hD.1 q hq) (hT.2.1 d hd)
  rw [e] at b3
  obtain ⟨g0, g1, g2, g3, g4, g5⟩ := kp_cD_f b3
  have c2 := hc.tr (b2.mono (T := fun r => r = 64 ∨ r = 65 ∨ r = 18 ∨ r = 21 ∨ r = 24 ∨ r = k ∨ r = k + 1) (fun r h => by omega))
  have fin : ∀ v, v = kp_idl D.2.2.1 D.2.2.2.2.2 → ∃ σ', f_X4_passDay_166 k k v σ2 = some σ' ∧ kp_ch (fun r => r = 64 ∨ r = 65 ∨ r = 18 ∨ r = 21 ∨ r = 24 ∨ r = k ∨ r = k + 1) σ σ' ∧ kp_cD σ' k = kp_id (kp_wr T d dy D) := by
    intro v hv
    unfold f_X4_passDay_166
    simp only [kz_lt]
    refine ⟨_, rfl, kp_ch.wi (S := fun r => r = 64 ∨ r = 65 ∨ r = 18 ∨ r = 21 ∨ r = 24 ∨ r = k ∨ r = k + 1) (kp_ch.wi (S := fun r => r = 64 ∨ r = 65 ∨ r = 18 ∨ r = 21 ∨ r = 24 ∨ r = k ∨ r = k + 1) c2 (by omega)) (by omega), ?_⟩
    refine (kp_cD_mk (f := (kp_wr T d dy D).1) (a := D.2.1) (b := v) (c := D.2.2.2.1) (d := D.2.2.2.2.1) (e := 0) (fun q hq => ?_) ?_ ?_ ?_ ?_ ?_).trans ?_
    · rw [kp_wi_row (by omega), kp_wi_row (by omega), g0 q hq]; rfl
    · rw [kp_wi_col (by decide), kp_wi_col (by decide), g1]; rfl
    · rw [kp_wi_col (by decide), kp_wi_same]
    · rw [kp_wi_col (by decide), kp_wi_col (by decide), g3]; rfl
    · rw [kp_wi_col (by decide), kp_wi_col (by decide), g4]; rfl
    · rw [kp_wi_same]
    · rw [hv]
      show (kd_cut (kd_cut _), _) = (kd_cut _, _)
      rw [kd_cut_cut]
      rfl
  unfold f_X4_passDay_121
  simp (disch := omega) only [↓reduceIte, kz_lt, Option.bind_some, kz_ix, kz_leT, kz_leF, kz_ltT, kz_ltF, kz_lt0, kz_0le, kz_0ltT, kz_le0F, kz_eq0F, kz_10, kz_00, kz_11, kz_01, nI_clamp, nI_1, nI_add, pk_mul, kc0, kc1, kc2, kc3, kc4, kc5, kc6, kc7, kc8, kc9, kc10, kx0, kx1, kx2, kx3, kx4, kx5, kx6, kx7, kx8, kr0_0, kr0_1, kr0_2, kr0_3, kr0_4, kr0_5, kr0_6, kr0_7, kr0_8, kr0_9, kr1_1, kr1_2, kr1_3, kr1_4, kr1_5, kr7_6, kr7_7, kr7_8, kr7_9, kr7_10, kr7_11, kr7_12, kr7_13, kr7_14, kr7_15, kr7_16, kr16_1, kr16_2, kr19_1, kr19_2, kr22_1, kr22_2, kr25_6, kr25_7, kr25_8, kr25_9, kr25_10, kr25_11, kr25_12, kr25_13, kr25_14, kr25_15, kr25_16, kr34_1, kr34_2, kr37_1, kr37_2, kr40_1, kr40_2, kr43_2, kr43_3, kr44_0, kr44_1, kr44_4, kr46_0, kr48_0, kr50_0, kr52_0, kr54_0, kr56_0, kr60_3, kr60_4, kr63_0, kr63_1, kr63_2, kr66_0, kr66_1, kr66_2, kr66_3, kr66_4, kr67_0, kr70_0, kr70_1, kr70_2, kr72_1, kr72_2, kr72_3, kr72_4, kr72_5, kr72_6, kr72_7, kl2, kl3, kl4, kl5, kl6, kl8, kl9, kl10, kl11, kl12, kl13, kl14, kl15, kl17, kl18, kl20, kl21, kl23, kl24, kl26, kl27, kl28, kl29, kl30, kl31, kl32, kl33, kl35, kl36, kl38, kl39, kl41, kl42, kl45, kl47, kl49, kl51, kl53, kl55, kl57, kl58, kl59, kl61, kl62, kl64, kl65, kl68, kl69, kl71, kl73, kl74, kl75, kl76, b1]
  have e5 : σ2.1 k 5 = D.2.2.2.2.2 := g5
  have e2 : σ2.1 k 2 = D.2.2.1 := g2
  rw [e5, e2]
  rcases hD.2.2.2 with t | t
  · rw [if_pos t]
    exact fin _ (by rw [← kp_idlC (Or.inl t), if_pos t])
  · rw [if_neg (by rw [t]; decide)]
    exact fin _ (by rw [← kp_idlC (Or.inr t), if_neg (by rw [t]; decide)])
theorem kp_pd_loop {T : kp_T} {σ : kf_St} {k d dy K : Nat} {ws : Int32} (hT : kp_Tok T) (h : kp_CT T σ) (hk : kp_isK k) (hd : d < kt_nd T) (hD : kp_Dok (kp_cD σ k)) (hdy : dy < 2 ^ 30) (hK : K < 2 ^ 31) : ∀ (m r : Nat), r + m = kt_nr T → ∀ fuel, m < fuel → ∀ τ, kp_ch (fun r => r = 64 ∨ r = 65 ∨ r = 18 ∨ r = 21 ∨ r = 24 ∨ r = k ∨ r = k + 1) σ τ → kp_cD τ k = kp_rn T d K dy r (kp_cD σ k) → ∃ σ', f_X4_passDay_3 fuel 63 k (nI d) (nI dy) (nI K) ws (nI r) τ = some σ' ∧ kp_ch (fun r => r = 64 ∨ r = 65 ∨ r = 18 ∨ r = 21 ∨ r = 24 ∨ r = k ∨ r = k + 1) σ σ' ∧ kp_cD σ' k = kp_dy T d K ws dy (kp_cD σ k) := by
  have hk' := hk
  obtain ⟨hk1, hk2, hk3⟩ := hk'
  have h6 := hT.1.1
  have h10 := hT.1.2.2
  intro m
  induction m with
  | zero =>
    intro r hr fuel hf τ h1 h2
    obtain ⟨n, rfl⟩ := kp_fuel (show 0 < fuel by omega)
    obtain rfl : r = kt_nr T := by omega
    have hτ : kp_CT T τ := h.ch (fun r e1 e2 e3 e4 => h1.1 r (by omega))
    show ∃ τ', f_X4_passDay_3_s _ 63 k (nI d) (nI dy) (nI K) ws (nI (kt_nr T)) τ = some τ' ∧ _
    have hR := kp_rn_ok hT (d := d) (K := K) (dy := dy) hD (kt_nr T) (Nat.le_refl _)
    unfold f_X4_passDay_3_s kp_dy
    simp (disch := omega) only [↓reduceIte, kz_lt, Option.bind_some, kz_ix, kz_leT, kz_leF, kz_ltT, kz_ltF, kz_lt0, kz_0le, kz_0ltT, kz_le0F, kz_eq0F, kz_10, kz_00, kz_11, kz_01, nI_clamp, nI_1, nI_add, pk_mul, kc0, kc1, kc2, kc3, kc4, kc5, kc6, kc7, kc8, kc9, kc10, kx0, kx1, kx2, kx3, kx4, kx5, kx6, kx7, kx8, kr0_0, kr0_1, kr0_2, kr0_3, kr0_4, kr0_5, kr0_6, kr0_7, kr0_8, kr0_9, kr1_1, kr1_2, kr1_3, kr1_4, kr1_5, kr7_6, kr7_7, kr7_8, kr7_9, kr7_10, kr7_11, kr7_12, kr7_13, kr7_14, kr7_15, kr7_16, kr16_1, kr16_2, kr19_1, kr19_2, kr22_1, kr22_2, kr25_6, kr25_7, kr25_8, kr25_9, kr25_10, kr25_11, kr25_12, kr25_13, kr25_14, kr25_15, kr25_16, kr34_1, kr34_2, kr37_1, kr37_2, kr40_1, kr40_2, kr43_2, kr43_3, kr44_0, kr44_1, kr44_4, kr46_0, kr48_0, kr50_0, kr52_0, kr54_0, kr56_0, kr60_3, kr60_4, kr63_0, kr63_1, kr63_2, kr66_0, kr66_1, kr66_2, kr66_3, kr66_4, kr67_0, kr70_0, kr70_1, kr70_2, kr72_1, kr72_2, kr72_3, kr72_4, kr72_5, kr72_6, kr72_7, kl2, kl3, kl4, kl5, kl6, kl8, kl9, kl10, kl11, kl12, kl13, kl14, kl15, kl17, kl18, kl20, kl21, kl23, kl24, kl26, kl27, kl28, kl29, kl30, kl31, kl32, kl33, kl35, kl36, kl38, kl39, kl41, kl42, kl45, kl47, kl49, kl51, kl53, kl55, kl57, kl58, kl59, kl61, kl62, kl64, kl65, kl68, kl69, kl71, kl73, kl74, kl75, kl76, hτ.1.2.2, kp_hasWind hτ]
    generalize kp_rn T d K dy (kt_nr T) (kp_cD σ k) = D at h2 hR ⊢
    unfold kp_wnd
    by_cases w1 : ws = -1
    · rw [if_pos w1, if_pos w1]
      exact kp_pd121 hT hτ hk hd hR h2 h1
    · rw [if_neg w1, if_neg w1]
      by_cases w2 : kp_bl T ws dy = true
      · rw [if_pos w2, if_neg (by decide), if_pos w2, kp_lotC (by decide) (by decide), Option.bind_some]
        obtain ⟨j, hj, ej⟩ := kp_lot_n (n := 4) (by decide) (by decide) ws (16 * nI dy + 1 + nI d)
        have ej' : kp_lot 4 ws (16 * nI dy + 1 + nI d) = nI j := ej
        rw [ej']
        obtain ⟨f0, f1, f2, f3, f4, f5⟩ := kp_cD_f h2
        simp (disch := omega) only [↓reduceIte, kz_lt, Option.bind_some, kz_ix, kz_leT, kz_leF, kz_ltT, kz_ltF, kz_lt0, kz_0le, kz_0ltT, kz_le0F, kz_eq0F, kz_10, kz_00, kz_11, kz_01, nI_clamp, nI_1, nI_add, pk_mul, kc0, kc1, kc2, kc3, kc4, kc5, kc6, kc7, kc8, kc9, kc10, kx0, kx1, kx2, kx3, kx4, kx5, kx6, kx7, kx8, kr0_0, kr0_1, kr0_2, kr0_3, kr0_4, kr0_5, kr0_6, kr0_7, kr0_8, kr0_9, kr1_1, kr1_2, kr1_3, kr1_4, kr1_5, kr7_6, kr7_7, kr7_8, kr7_9, kr7_10, kr7_11, kr7_12, kr7_13, kr7_14, kr7_15, kr7_16, kr16_1, kr16_2, kr19_1, kr19_2, kr22_1, kr22_2, kr25_6, kr25_7, kr25_8, kr25_9, kr25_10, kr25_11, kr25_12, kr25_13, kr25_14, kr25_15, kr25_16, kr34_1, kr34_2, kr37_1, kr37_2, kr40_1, kr40_2, kr43_2, kr43_3, kr44_0, kr44_1, kr44_4, kr46_0, kr48_0, kr50_0, kr52_0, kr54_0, kr56_0, kr60_3, kr60_4, kr63_0, kr63_1, kr63_2, kr66_0, kr66_1, kr66_2, kr66_3, kr66_4, kr67_0, kr70_0, kr70_1, kr70_2, kr72_1, kr72_2, kr72_3, kr72_4, kr72_5, kr72_6, kr72_7, kl2, kl3, kl4, kl5, kl6, kl8, kl9, kl10, kl11, kl12, kl13, kl14, kl15, kl17, kl18, kl20, kl21, kl23, kl24, kl26, kl27, kl28, kl29, kl30, kl31, kl32, kl33, kl35, kl36, kl38, kl39, kl41, kl42, kl45, kl47, kl49, kl51, kl53, kl55, kl57, kl58, kl59, kl61, kl62, kl64, kl65, kl68, kl69, kl71, kl73, kl74, kl75, kl76, hk1, hk2, f0 j hj]
        rw [kp_decC (hR.1 j hj)]
        have e2 : kp_cD (kf_wi τ (k + 1) j (kp_dec (D.1 j))) k = (kd_cut (fun p => if nI p = nI j then kp_dec (D.1 p) else D.1 p), D.2) := by
          refine (kp_cD_mk (f := fun p => if nI p = nI j then kp_dec (D.1 p) else D.1 p) (fun q hq => ?_) ?_ ?_ ?_ ?_ ?_).trans rfl
          · by_cases e : q = j
            · rw [e, kp_wi_same, if_pos rfl]
            · rw [kp_wi_col e, f0 q hq, if_neg (fun x => e ((nI_eq (by omega) (by omega)).mp x))]
          · rw [kp_wi_row (by omega), f1]
          · rw [kp_wi_row (by omega), f2]
          · rw [kp_wi_row (by omega), f3]
          · rw [kp_wi_row (by omega), f4]
          · rw [kp_wi_row (by omega), f5]
        have ok := kp_wnd_ok (T := T) (ws := ws) (dy := dy) (d := d) hR
        unfold kp_wnd at ok
        rw [if_neg w1, if_pos w2, ej'] at ok
        exact kp_pd121 hT (hτ.ch (fun r e1 e2 e3 e4 => kz_rowf (by omega))) hk hd ok e2 (kp_ch.wi (S := fun r => r = 64 ∨ r = 65 ∨ r = 18 ∨ r = 21 ∨ r = 24 ∨ r = k ∨ r = k + 1) h1 (by omega))
      · rw [if_neg w2, if_pos rfl, if_neg w2]
        exact kp_pd121 hT hτ hk hd hR h2 h1
  | succ m ih =>
    intro r hr fuel hf τ h1 h2
    obtain ⟨n, rfl⟩ := kp_fuel (show 0 < fuel by omega)
    have hτ : kp_CT T τ := h.ch (fun r e1 e2 e3 e4 => h1.1 r (by omega))
    show ∃ τ', f_X4_passDay_3_s _ 63 k (nI d) (nI dy) (nI K) ws (nI r) τ = some τ' ∧ _
    have hR := kp_rn_ok hT (d := d) (K := K) (dy := dy) hD r (by omega)
    obtain ⟨t1, t2, -⟩ := hT.2.2.2.1 r (by omega)
    obtain ⟨c1, c2, -⟩ := hτ.2.2.2.2.1 r (by omega)
    unfold f_X4_passDay_3_s f_X4_passDay_60
    simp (disch := omega) only [↓reduceIte, kz_lt, Option.bind_some, kz_ix, kz_leT, kz_leF, kz_ltT, kz_ltF, kz_lt0, kz_0le, kz_0ltT, kz_le0F, kz_eq0F, kz_10, kz_00, kz_11, kz_01, nI_clamp, nI_1, nI_add, pk_mul, kc0, kc1, kc2, kc3, kc4, kc5, kc6, kc7, kc8, kc9, kc10, kx0, kx1, kx2, kx3, kx4, kx5, kx6, kx7, kx8, kr0_0, kr0_1, kr0_2, kr0_3, kr0_4, kr0_5, kr0_6, kr0_7, kr0_8, kr0_9, kr1_1, kr1_2, kr1_3, kr1_4, kr1_5, kr7_6, kr7_7, kr7_8, kr7_9, kr7_10, kr7_11, kr7_12, kr7_13, kr7_14, kr7_15, kr7_16, kr16_1, kr16_2, kr19_1, kr19_2, kr22_1, kr22_2, kr25_6, kr25_7, kr25_8, kr25_9, kr25_10, kr25_11, kr25_12, kr25_13, kr25_14, kr25_15, kr25_16, kr34_1, kr34_2, kr37_1, kr37_2, kr40_1, kr40_2, kr43_2, kr43_3, kr44_0, kr44_1, kr44_4, kr46_0, kr48_0, kr50_0, kr52_0, kr54_0, kr56_0, kr60_3, kr60_4, kr63_0, kr63_1, kr63_2, kr66_0, kr66_1, kr66_2, kr66_3, kr66_4, kr67_0, kr70_0, kr70_1, kr70_2, kr72_1, kr72_2, kr72_3, kr72_4, kr72_5, kr72_6, kr72_7, kl2, kl3, kl4, kl5, kl6, kl8, kl9, kl10, kl11, kl12, kl13, kl14, kl15, kl17, kl18, kl20, kl21, kl23, kl24, kl26, kl27, kl28, kl29, kl30, kl31, kl32, kl33, kl35, kl36, kl38, kl39, kl41, kl42, kl45, kl47, kl49, kl51, kl53, kl55, kl57, kl58, kl59, kl61, kl62, kl64, kl65, kl68, kl69, kl71, kl73, kl74, kl75, kl76, hτ.1.2.2, c1, c2, kp_comes hT hτ (show r < kt_nr T by omega) hdy hK]
    have nx := ih (r + 1) (by omega) n (by omega)
    rw [show kp_rn T d K dy (r + 1) (kp_cD σ k) = if kt_rd T r = d ∧ kp_cm T K r dy = true then kp_lf T (kp_rn T d K dy r (kp_cD σ k)) (kt_rc T r) (nI dy) else kp_rn T d K dy r (kp_cD σ k) from rfl] at nx
    by_cases b1 : kt_rd T r = d
    · rw [if_pos (by rw [b1])]
      by_cases b2 : kp_cm T K r dy = true
      · rw [if_pos b2, if_neg (by decide)]
        rw [if_pos ⟨b1, b2⟩] at nx
        obtain ⟨f0, -⟩ := kp_cD_f h2
        obtain ⟨σ2, a1, a2, a3⟩ := kp_liftBy (dy := nI dy) hT hτ hk t1 (fun q hq => by rw [f0 q hq]; exact hR.1 q hq)
        rw [a1, Option.bind_some]
        exact nx σ2 (h1.tr (a2.mono (fun r h => by omega))) (by rw [a3, h2])
      · rw [if_neg b2, if_pos rfl]
        rw [if_neg (fun x => b2 x.2)] at nx
        exact nx τ h1 h2
    · rw [if_neg (fun x => b1 ((nI_eq (by omega) (by omega)).mp x))]
      rw [if_neg (fun x => b1 x.1)] at nx
      exact nx τ h1 h2
theorem kp_passDay {T : kp_T} {σ : kf_St} {k d dy K : Nat} {ws : Int32} (hT : kp_Tok T) (h : kp_CT T σ) (hk : kp_isK k) (hd : d < kt_nd T) (hD : kp_Dok (kp_cD σ k)) (hdy : dy < 2 ^ 30) (hK : K < 2 ^ 31) : ∃ σ', f_X4_passDay 63 k (nI d) (nI dy) (nI K) ws σ = some σ' ∧ kp_ch (fun r => r = 64 ∨ r = 65 ∨ r = 18 ∨ r = 21 ∨ r = 24 ∨ r = k ∨ r = k + 1) σ σ' ∧ kp_cD σ' k = kp_dy T d K ws dy (kp_cD σ k) := by
  have h10 := hT.1.2.2
  exact kp_pd_loop hT h hk hd hD hdy hK (kt_nr T) 0 (by omega) kf_F (kf_F_gt (by omega)) σ kp_ch.rf rfl
/-! become: the trial -/
theorem kz_cok4 {a b : Nat} (ha : 4 ≤ a) (hb : 4 ≤ b) : (kf_cok 0 0 4 a b = true) = True := eq_true (decide_eq_true ⟨by decide, by decide, by decide, ha, hb⟩)
theorem kz_zb {v : Int32} (h : v = 0 ∨ v = 1) : (kf_zb v = true) = True := eq_true (decide_eq_true h)
theorem kp_ci_at (σ : kf_St) (a b sp dp n k j : Nat) : (kf_ci σ a b sp dp n).1 k j = if k = b then va_cpy (σ.1 a) (σ.1 b) sp dp n j else σ.1 k j := rfl
theorem kp_ci_row {σ : kf_St} {a b sp dp n k : Nat} (h : k ≠ b) : (kf_ci σ a b sp dp n).1 k = σ.1 k := by
  funext j
  rw [kp_ci_at, if_neg h]
theorem kp_ch.ci {S : Nat → Prop} {σ σ' : kf_St} (h : kp_ch S σ σ') {a b sp dp n : Nat} (hb : S b) : kp_ch S σ (kf_ci σ' a b sp dp n) := ⟨fun k hk => (kp_ci_row (fun e => hk (by rw [e]; exact hb))).trans (h.1 k hk), h.2⟩
theorem kp_become {σ : kf_St} {k : Nat} (hk : kp_isK k) (hk6 : k ≤ 56) (hz : σ.1 k 5 = 0 ∨ σ.1 k 5 = 1) : ∃ σ', f_X1_become 67 k σ = some σ' ∧ kp_ch (fun r => r = 67 ∨ r = 68) σ σ' ∧ kp_cD σ' 67 = kp_cD σ k := by
  obtain ⟨hk1, hk2, hk3⟩ := hk
  unfold f_X1_become
  simp (disch := omega) only [↓reduceIte, kz_lt, Option.bind_some, kz_ix, kz_leT, kz_leF, kz_ltT, kz_ltF, kz_lt0, kz_0le, kz_0ltT, kz_le0F, kz_eq0F, kz_10, kz_00, kz_11, kz_01, nI_clamp, nI_1, nI_add, pk_mul, kc0, kc1, kc2, kc3, kc4, kc5, kc6, kc7, kc8, kc9, kc10, kx0, kx1, kx2, kx3, kx4, kx5, kx6, kx7, kx8, kr0_0, kr0_1, kr0_2, kr0_3, kr0_4, kr0_5, kr0_6, kr0_7, kr0_8, kr0_9, kr1_1, kr1_2, kr1_3, kr1_4, kr1_5, kr7_6, kr7_7, kr7_8, kr7_9, kr7_10, kr7_11, kr7_12, kr7_13, kr7_14, kr7_15, kr7_16, kr16_1, kr16_2, kr19_1, kr19_2, kr22_1, kr22_2, kr25_6, kr25_7, kr25_8, kr25_9, kr25_10, kr25_11, kr25_12, kr25_13, kr25_14, kr25_15, kr25_16, kr34_1, kr34_2, kr37_1, kr37_2, kr40_1, kr40_2, kr43_2, kr43_3, kr44_0, kr44_1, kr44_4, kr46_0, kr48_0, kr50_0, kr52_0, kr54_0, kr56_0, kr60_3, kr60_4, kr63_0, kr63_1, kr63_2, kr66_0, kr66_1, kr66_2, kr66_3, kr66_4, kr67_0, kr70_0, kr70_1, kr70_2, kr72_1, kr72_2, kr72_3, kr72_4, kr72_5, kr72_6, kr72_7, kl2, kl3, kl4, kl5, kl6, kl8, kl9, kl10, kl11, kl12, kl13, kl14, kl15, kl17, kl18, kl20, kl21, kl23, kl24, kl26, kl27, kl28, kl29, kl30, kl31, kl32, kl33, kl35, kl36, kl38, kl39, kl41, kl42, kl45, kl47, kl49, kl51, kl53, kl55, kl57, kl58, kl59, kl61, kl62, kl64, kl65, kl68, kl69, kl71, kl73, kl74, kl75, kl76, hk1, hk2, kz_cok4, kp_ci_row (show k ≠ 68 by omega), kz_row (show k ≠ 67 by omega), kz_zb hz]
  have h0 : kp_ch (fun r => r = 67 ∨ r = 68) σ (kf_ci σ (k + 1) 68 0 0 (Int32.toNatClampNeg 4)) := kp_ch.ci (S := fun r => r = 67 ∨ r = 68) kp_ch.rf (Or.inr rfl)
  refine ⟨_, rfl, kp_ch.wi (S := fun r => r = 67 ∨ r = 68) (kp_ch.wi (S := fun r => r = 67 ∨ r = 68) (kp_ch.wi (S := fun r => r = 67 ∨ r = 68) (kp_ch.wi (S := fun r => r = 67 ∨ r = 68) (kp_ch.wi (S := fun r => r = 67 ∨ r = 68) h0 (Or.inl rfl)) (Or.inl rfl)) (Or.inl rfl)) (Or.inl rfl)) (Or.inl rfl), ?_⟩
  refine kp_cD_mk (fun q hq => ?_) rfl rfl rfl rfl rfl
  show va_cpy (σ.1 (k + 1)) (σ.1 68) 0 0 4 q = _
  rw [pk_cpy_in (by omega) (by omega), Nat.zero_add, Nat.sub_zero]
