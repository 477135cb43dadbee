/-! ===== pure: the fewest lifts, both ===== -/
theorem kp_G0 {A : kp_A} {d c : Nat} (h0 : 0 < kt_nc (ka_T A)) : kp_G A d c 0 ↔ kp_kn (ka_T A) ((ka_S A).1 d).1 = nI c := kp_G_iff (n := 0) (w := 0) h0 (by decide) (by rw [Nat.pow_zero]; decide)
theorem kC_nad {A : kp_A} {k : Nat} (hA : kp_Aok A k) {σ : kf_St} (h : kp_Cr A σ) {d c : Nat} (hd : d < kt_nd (ka_T A)) (hc : c < kt_nc (ka_T A)) {τ0 : kf_St} (c0 : kp_ch kp_xC σ τ0) (i0 : kL_i A d 1 τ0) : ∀ m, 1 + m ≤ kp_os (kt_nc (ka_T A)) 5 → (∀ u, u < 1 + m → ¬ kp_G A d c u) → ∃ τ', f_X0_nodeKnownBy_86 kf_F 66 (nI d) (nI c) (nI (kt_nc (ka_T A))) (nI (kp_os (kt_nc (ka_T A)) 5)) 1 τ0 = f_X0_nodeKnownBy_86 (1000000 - m) 66 (nI d) (nI c) (nI (kt_nc (ka_T A))) (nI (kp_os (kt_nc (ka_T A)) 5)) (nI (1 + m)) τ' ∧ kp_ch kp_xC σ τ' ∧ kL_i A d (1 + m) τ'
  | 0, _, _ => ⟨τ0, rfl, c0, i0⟩
  | m + 1, hm, hu => by
    have h5 := hA.1.1.2.1
    obtain ⟨τ', e, c1, i1⟩ := kC_nad hA h hd hc c0 i0 m (by omega) (fun u hu' => hu u (by omega))
    have b5 := (kp_os_all _ h5 5 (by omega)).1
    obtain ⟨n, w, hn, hw, hv⟩ := kp_os_at (c := kt_nc (ka_T A)) 5 (1 + m) (by omega)
    obtain ⟨n', rfl⟩ : ∃ n', n = n' + 1 := by
      cases n with
      | zero => exact absurd hv (by have : w < 1 := hw; show ¬ 1 + m = 0 + w; omega)
      | succ n' => exact ⟨n', rfl⟩
    obtain ⟨τ2, e2, c2, i2⟩ := (kC_nst (f := 1000000 - (m + 1)) hA h hd hc (by omega) hw hv c1 i1).2 (hu _ (by omega))
    rw [show 1000000 - (m + 1) + 1 = 1000000 - m by omega] at e2
    exact ⟨τ2, e.trans e2, c2, i2⟩
theorem kC_nkb {A : kp_A} {k : Nat} (hA : kp_Aok A k) {σ : kf_St} (h : kp_Cr A σ) {d c : Nat} (hd : d < kt_nd (ka_T A)) (hc : c < kt_nc (ka_T A)) : (∀ v, v < kp_os (kt_nc (ka_T A)) 5 → kp_G A d c v → (∀ u, u < v → ¬ kp_G A d c u) → ∃ τ', f_X0_nodeKnownBy 66 (nI d) (nI c) σ = some (nI v, τ') ∧ kp_ch kp_xC σ τ') ∧ ((∀ v, v < kp_os (kt_nc (ka_T A)) 5 → ¬ kp_G A d c v) → ∃ τ', f_X0_nodeKnownBy 66 (nI d) (nI c) σ = some (-2, τ') ∧ kp_ch kp_xC σ τ') := by
  have h6 := hA.1.1.1
  have h5 := hA.1.1.2.1
  have h0 : 0 < kt_nc (ka_T A) := by omega
  have b5 := (kp_os_all _ h5 5 (by omega)).1
  have o5 := kp_os_mono h0 1 5 (by decide)
  have o1 : kp_os (kt_nc (ka_T A)) 1 = 1 := by show kt_nc (ka_T A) * 0 + 1 = 1; omega
  obtain ⟨τ, a1, a2, a3⟩ := kC_tr hA h hd
  have h' := h.ch hA a2
  have kn := kC_kt hA h' a3 (hA.2.1.1 d hd)
  have z1 : (1 ≤ nI (kt_nc (ka_T A))) = True := kz_1le h0 (by omega)
  have z2 : (nI (kt_nc (ka_T A)) < 1) = False := eq_false (nI_nlt (a := kt_nc (ka_T A)) (b := 1) (by omega) (by omega))
  by_cases g0 : kp_G A d c 0
  · have e : f_X0_nodeKnownBy 66 (nI d) (nI c) σ = some (nI 0, τ) := by
      unfold f_X0_nodeKnownBy f_X0_nodeKnownBy_47
      simp (disch := omega) only [↓reduceIte, kz_lt, Option.bind_some, kz_ix, kz_leT, kz_leF, kz_ltT, kz_ltF, kz_lt0, kz_0le, kz_0ltT, kz_le0F, kz_eq0F, kz_10, kz_00, kz_11, kz_01, nI_clamp, nI_1, nI_add, pk_mul, kc0, kc1, kc2, kc3, kc4, kc5, kc6, kc7, kc8, kc9, kc10, kx0, kx1, kx2, kx3, kx4, kx5, kx6, kx7, kx8, kr0_0, kr0_1, kr0_2, kr0_3, kr0_4, kr0_5, kr0_6, kr0_7, kr0_8, kr0_9, kr1_1, kr1_2, kr1_3, kr1_4, kr1_5, kr7_6, kr7_7, kr7_8, kr7_9, kr7_10, kr7_11, kr7_12, kr7_13, kr7_14, kr7_15, kr7_16, kr16_1, kr16_2, kr19_1, kr19_2, kr22_1, kr22_2, kr25_6, kr25_7, kr25_8, kr25_9, kr25_10, kr25_11, kr25_12, kr25_13, kr25_14, kr25_15, kr25_16, kr34_1, kr34_2, kr37_1, kr37_2, kr40_1, kr40_2, kr43_2, kr43_3, kr44_0, kr44_1, kr44_4, kr46_0, kr48_0, kr50_0, kr52_0, kr54_0, kr56_0, kr60_3, kr60_4, kr63_0, kr63_1, kr63_2, kr66_0, kr66_1, kr66_2, kr66_3, kr66_4, kr67_0, kr70_0, kr70_1, kr70_2, kr72_1, kr72_2, kr72_3, kr72_4, kr72_5, kr72_6, kr72_7, kl2, kl3, kl4, kl5, kl6, kl8, kl9, kl10, kl11, kl12, kl13, kl14, kl15, kl17, kl18, kl20, kl21, kl23, kl24, kl26, kl27, kl28, kl29, kl30, kl31, kl32, kl33, kl35, kl36, kl38, kl39, kl41, kl42, kl45, kl47, kl49, kl51, kl53, kl55, kl57, kl58, kl59, kl61, kl62, kl64, kl65, kl68, kl69, kl71, kl73, kl74, kl75, kl76, h.1.1.2.1, kz_rf45, a1, kn, (kp_G0 h0).mp g0, z1, z2]
      rfl
    refine ⟨fun v hv gv hu => ?_, fun hn => absurd g0 (hn 0 (by omega))⟩
    have : v = 0 := by
      cases v with
      | zero => rfl
      | succ v => exact absurd g0 (hu 0 (by omega))
    subst this
    exact ⟨τ, e, a2⟩
  · have ng : ¬ kp_kn (ka_T A) ((ka_S A).1 d).1 = nI c := fun e => g0 ((kp_G0 h0).mpr e)
    have c0 : kp_ch kp_xC σ (kf_ci τ 68 69 0 0 4) := kp_ch.ci (S := kp_xC) a2 (by unfold kp_xC; omega)
    have hc0 := h.ch hA c0
    have e : f_X0_nodeKnownBy 66 (nI d) (nI c) σ = f_X0_nodeKnownBy_86 kf_F 66 (nI d) (nI c) (nI (kt_nc (ka_T A))) (nI (kp_os (kt_nc (ka_T A)) 5)) 1 (kf_ci τ 68 69 0 0 4) := by
      unfold f_X0_nodeKnownBy
      simp (disch := omega) only [↓reduceIte, kz_lt, Option.bind_some, kz_ix, kz_leT, kz_leF, kz_ltT, kz_ltF, kz_lt0, kz_0le, kz_0ltT, kz_le0F, kz_eq0F, kz_10, kz_00, kz_11, kz_01, nI_clamp, nI_1, nI_add, pk_mul, kc0, kc1, kc2, kc3, kc4, kc5, kc6, kc7, kc8, kc9, kc10, kx0, kx1, kx2, kx3, kx4, kx5, kx6, kx7, kx8, kr0_0, kr0_1, kr0_2, kr0_3, kr0_4, kr0_5, kr0_6, kr0_7, kr0_8, kr0_9, kr1_1, kr1_2, kr1_3, kr1_4, kr1_5, kr7_6, kr7_7, kr7_8, kr7_9, kr7_10, kr7_11, kr7_12, kr7_13, kr7_14, kr7_15, kr7_16, kr16_1, kr16_2, kr19_1, kr19_2, kr22_1, kr22_2, kr25_6, kr25_7, kr25_8, kr25_9, kr25_10, kr25_11, kr25_12, kr25_13, kr25_14, kr25_15, kr25_16, kr34_1, kr34_2, kr37_1, kr37_2, kr40_1, kr40_2, kr43_2, kr43_3, kr44_0, kr44_1, kr44_4, kr46_0, kr48_0, kr50_0, kr52_0, kr54_0, kr56_0, kr60_3, kr60_4, kr63_0, kr63_1, kr63_2, kr66_0, kr66_1, kr66_2, kr66_3, kr66_4, kr67_0, kr70_0, kr70_1, kr70_2, kr72_1, kr72_2, kr72_3, kr72_4, kr72_5, kr72_6, kr72_7, kl2, kl3, kl4, kl5, kl6, kl8, kl9, kl10, kl11, kl12, kl13, kl14, kl15, kl17, kl18, kl20, kl21, kl23, kl24, kl26, kl27, kl28, kl29, kl30, kl31, kl32, kl33, kl35, kl36, kl38, kl39, kl41, kl42, kl45, kl47, kl49, kl51, kl53, kl55, kl57, kl58, kl59, kl61, kl62, kl64, kl65, kl68, kl69, kl71, kl73, kl74, kl75, kl76, h.1.1.2.1, kz_rf45, a1, kn, ng, z1, z2, kz_cok4, kC_abv h5 hc0.1.1.2.1]
    have i0 : kL_i A d 1 (kf_ci τ 68 69 0 0 4) := by
      refine ⟨fun n w hn hw hlt p hp => ?_, _, (kp_cD_eq (kp_ci_row (by decide)) (kp_ci_row (by decide))).trans a3, hA.2.1.1 d hd, rfl, rfl⟩
      have hz : n = 0 ∧ w = 0 := by
        cases n with
        | zero => exact ⟨rfl, by have : w < 1 := hw; omega⟩
        | succ n => exact absurd hlt (by show ¬ kt_nc (ka_T A) * kp_os (kt_nc (ka_T A)) n + 1 + w < 1; omega)
      obtain ⟨rfl, rfl⟩ := hz
      show (kf_ci τ 68 69 0 0 4).1 69 (4 * 0 + p) = ((ka_S A).1 d).1 p
      rw [Nat.mul_zero, Nat.zero_add, kz_ci_in (Nat.zero_le _) (by omega), Nat.sub_zero, Nat.zero_add, (kp_cD_f a3).1 p hp]
    have adv := kC_nad hA h hd hc c0 i0
    refine ⟨fun v hv gv hu => ?_, fun hn => ?_⟩
    · obtain ⟨m, rfl⟩ : ∃ m, v = 1 + m := by
        cases v with
        | zero => exact absurd gv g0
        | succ m => exact ⟨m, by omega⟩
      obtain ⟨τ', e1, c1, i1⟩ := adv m (by omega) hu
      obtain ⟨n, w, hn, hw, hv2⟩ := kp_os_at (c := kt_nc (ka_T A)) 5 (1 + m) hv
      obtain ⟨n', rfl⟩ : ∃ n', n = n' + 1 := by
        cases n with
        | zero => exact absurd hv2 (by have : w < 1 := hw; show ¬ 1 + m = 0 + w; omega)
        | succ n' => exact ⟨n', rfl⟩
      obtain ⟨τ2, e2, c2⟩ := (kC_nst (f := 999999 - m) hA h hd hc (by omega) hw hv2 c1 i1).1 gv
      rw [show 999999 - m + 1 = 1000000 - m by omega] at e2
      exact ⟨τ2, e.trans (e1.trans e2), c2⟩
    · obtain ⟨m, hm⟩ : ∃ m, kp_os (kt_nc (ka_T A)) 5 = 1 + m := ⟨kp_os (kt_nc (ka_T A)) 5 - 1, by omega⟩
      obtain ⟨τ', e1, c1, i1⟩ := adv m (by omega) (fun u hu => hn u (by omega))
      refine ⟨τ', e.trans (e1.trans ?_), c1⟩
      rw [show 1000000 - m = 999999 - m + 1 by omega]
      show f_X0_nodeKnownBy_86_s _ 66 _ _ _ _ (nI (1 + m)) τ' = _
      unfold f_X0_nodeKnownBy_86_s
      rw [if_pos (nI_le (by omega) (by omega))]
/-! the reference -/
theorem kM_pow {c n : Nat} (hc : c ≤ 5) (hn : n ≤ 4) (σ : kf_St) : f_X12_power (nI c) (nI n) σ = some (nI (c ^ n), σ) := by
  unfold f_X12_power
  refine kp_run (n := n) (fun i f => f_X12_power_4 f (nI c) (nI n) (nI (c ^ i)) (nI i) σ = some (nI (c ^ n), σ)) (by omega) (fun f => ?_) (fun i hi f ih => ?_)
  · show f_X12_power_4_s _ (nI c) (nI n) _ (nI n) σ = _
    unfold f_X12_power_4_s
    exact if_pos (nI_le (Nat.le_refl _) (by omega))
  · show f_X12_power_4_s _ (nI c) (nI n) _ (nI i) σ = _
    unfold f_X12_power_4_s
    rw [if_neg (nI_ge hi (by omega))]
    simp only [kf_lt]
    rw [pk_mul, nI_1]
    rw [Nat.pow_succ] at ih
    exact ih
theorem kM_dig {T : kp_T} {lv : Nat} {σ : kf_St} (hT : kp_Tok T) (h : kp_MT T lv σ) (h0 : 0 < kt_nc T) {n w i : Nat} (hi : i < n) (hn : n ≤ 4) (hw : w < kt_nc T ^ n) : f_X12_digitOf 77 (nI w) (nI n) (nI i) σ = some (nI (w / kt_nc T ^ (n - 1 - i) % kt_nc T), σ) := by
  have h5 := hT.1.2.1
  have hl := h.1
  have hb := (kp_os_all _ h5 n (by omega)).2.1
  have hb2 := (kp_os_all _ h5 (n - 1 - i) (by omega)).2.1
  have hp := Nat.pow_pos (n := n - 1 - i) h0
  have e1 : nI n - 1 = nI (n - 1) := pk_sub (b := 1) (by omega)
  have e2 : nI (n - 1) - nI i = nI (n - 1 - i) := pk_sub (by omega)
  have e3 : nI w / nI (kt_nc T ^ (n - 1 - i)) = nI (w / kt_nc T ^ (n - 1 - i)) := pk_div (by omega) hp (by omega)
  have hle : w / kt_nc T ^ (n - 1 - i) ≤ w := Nat.div_le_self _ _
  have e4 : nI (w / kt_nc T ^ (n - 1 - i)) - nI (w / kt_nc T ^ (n - 1 - i)) / nI (kt_nc T) * nI (kt_nc T) = nI (w / kt_nc T ^ (n - 1 - i) % kt_nc T) := pk_rem (by omega) h0 (by omega)
  have z : (nI (kt_nc T ^ (n - 1 - i)) = 0) = False := kz_eq0F hp (by omega)
  unfold f_X12_digitOf
  simp (disch := omega) only [↓reduceIte, kz_lt, Option.bind_some, kz_ix, kz_leT, kz_leF, kz_ltT, kz_ltF, kz_lt0, kz_0le, kz_0ltT, kz_le0F, kz_eq0F, kz_10, kz_00, kz_11, kz_01, nI_clamp, nI_1, nI_add, kc0, kc1, kc2, kc3, kc4, kc5, kc6, kc7, kc8, kc9, kc10, kx0, kx1, kx2, kx3, kx4, kx5, kx6, kx7, kx8, kr77_1, kr77_3, kr77_5, kr77_6, kr77_7, kr77_8, kr77_9, kr77_21, kr77_22, kr77_23, kr77_24, kr77_25, kr77_26, kr77_27, kr77_28, kr77_29, kr77_30, kr77_31, kr77_32, kr77_33, kr77_34, kr77_35, kr77_36, kr77_38, kr77_39, kr77_40, kr77_41, kr77_42, kr77_44, kr77_45, kr77_46, kr77_48, kr77_49, kr77_51, kr77_52, kr77_55, kr77_57, kr77_58, kr77_59, kr77_61, kr77_62, kr77_63, kr77_64, kr77_65, kl78, kl79, kl80, kl81, kl82, kl83, kl84, kl85, kl86, kl87, kl88, kl89, kl90, kl91, kl92, kl93, kl94, kl95, kl96, kl97, kl98, kl99, kl100, kl101, kl102, kl103, kl104, kl105, kl106, kl107, kl108, kl109, kl110, kl111, kl112, kl113, kl114, kl115, kl116, kl117, kl118, kl119, kl120, kl121, h.2.1, h.2.2.1.2.1, e1, e2, kM_pow h5 (show n - 1 - i ≤ 4 by omega), z, e3]
  rw [e4]
theorem kM_dw {A : kp_A} {k : Nat} (hA : kp_Aok A k) {σ : kf_St} (h : kp_Mr A σ) {d c n w : Nat} (hd : d < kt_nd (ka_T A)) (hc : c < kt_nc (ka_T A)) (hn : n ≤ 4) (hw : w < kt_nc (ka_T A) ^ n) : ∃ τ, f_X12_doesWay 77 (nI d) (nI c) (nI w) (nI n) σ = some (if kp_kn (ka_T A) (kp_wq (ka_T A) ((ka_S A).1 d) (nI (ka_S A).2.2.2) n w).1 = nI c then 1 else 0, τ) ∧ kp_chM kp_xM kp_jM σ τ := by
  have h6 := hA.1.1.1
  have h0 : 0 < kt_nc (ka_T A) := by omega
  obtain ⟨lv, τ0, e, c', hm, hm', hs, -⟩ := kM_co hA h
  have main : ∃ τ, f_X12_doesWay_7 kf_F 77 (nI d) (nI c) (nI w) (nI n) 0 τ0 = some (if kp_kn (ka_T A) (kp_wq (ka_T A) ((ka_S A).1 d) (nI (ka_S A).2.2.2) n w).1 = nI c then 1 else 0, τ) ∧ kp_chM kp_xM kp_jM σ τ := by
    refine kp_run (n := n) (fun i f => ∀ τ, kp_chM kp_xM kp_jM σ τ → (∃ S, kp_fS (τ.1 112) S ∧ S.1 d = kp_wq (ka_T A) ((ka_S A).1 d) (nI (ka_S A).2.2.2) i (w / kt_nc (ka_T A) ^ (n - i)) ∧ S.2.2 = (ka_S A).2.2) → ∃ τ', f_X12_doesWay_7 f 77 (nI d) (nI c) (nI w) (nI n) (nI i) τ = some (if kp_kn (ka_T A) (kp_wq (ka_T A) ((ka_S A).1 d) (nI (ka_S A).2.2.2) n w).1 = nI c then 1 else 0, τ') ∧ kp_chM kp_xM kp_jM σ τ') (by omega) (fun f τ cc hS => ?_) (fun i hi f ih τ cc hS => ?_) τ0 c' ⟨ka_S A, hs, rfl, rfl⟩
    · obtain ⟨S, s1, s2, s3⟩ := hS
      have hm1 := kM_wm hm cc
      have kn := kM_knF hA.1 hm1 s1 (show d < 6 by omega)
      rw [s2, Nat.sub_self, Nat.pow_zero, Nat.div_one] at kn
      refine ⟨τ, ?_, cc⟩
      show f_X12_doesWay_7_s _ 77 (nI d) (nI c) (nI w) (nI n) (nI n) τ = _
      unfold f_X12_doesWay_7_s
      rw [if_pos (nI_le (Nat.le_refl _) (by omega)), kn, Option.bind_some]
      dsimp only
      by_cases b : kp_kn (ka_T A) (kp_wq (ka_T A) ((ka_S A).1 d) (nI (ka_S A).2.2.2) n w).1 = nI c
      · rw [if_pos b, if_pos b]
      · rw [if_neg b, if_neg b]
    · obtain ⟨S, s1, s2, s3⟩ := hS
      have hm1 := kM_wm hm cc
      have dg := kM_dig hA.1 hm1 h0 hi hn hw
      obtain ⟨τ2, b1, b2, b3⟩ := kp_lifted (c := w / kt_nc (ka_T A) ^ (n - 1 - i) % kt_nc (ka_T A)) hA.1 hm1 (show d < 6 by omega) (Nat.mod_lt _ h0) s1 (by rw [s2]; exact kp_wq_ok hA.1 (hA.2.1.1 d hd) h0 _ _)
      obtain ⟨τ', r1, r2⟩ := ih τ2 (cc.tr (kM_xg b2)) ⟨_, b3, by
        show (if d = d then _ else _) = _
        have ep : kt_nc (ka_T A) ^ (n - (i + 1)) * kt_nc (ka_T A) = kt_nc (ka_T A) ^ (n - i) := by rw [show n - i = n - (i + 1) + 1 by omega, Nat.pow_succ]
        rw [if_pos rfl, kp_wq_s, s2, s3, Nat.div_div_eq_div_mul, ep, show n - (i + 1) = n - 1 - i by omega], s3⟩
      refine ⟨τ', ?_, r2⟩
      show f_X12_doesWay_7_s _ 77 (nI d) (nI c) (nI w) (nI n) (nI i) τ = _
      unfold f_X12_doesWay_7_s
      rw [if_neg (nI_ge hi (by omega)), dg, Option.bind_some]
      dsimp only
      rw [b1, Option.bind_some]
      simp only [kf_lt]
      rw [nI_1]
      exact r1
  obtain ⟨τ, m1, m2⟩ := main
  refine ⟨τ, ?_, m2⟩
  unfold f_X12_doesWay
  rw [e, Option.bind_some]
  exact m1
theorem kM_ladv {A : kp_A} {k : Nat} (hA : kp_Aok A k) {σ : kf_St} (h : kp_Mr A σ) {d c : Nat} (hd : d < kt_nd (ka_T A)) (hc : c < kt_nc (ka_T A)) (z : Int32) : ∀ n, n ≤ 4 → ∀ w, w ≤ kt_nc (ka_T A) ^ n → (∀ u, u < kp_os (kt_nc (ka_T A)) n + w → ¬ kp_G A d c u) → ∃ τ, f_X12_lifts_23 kf_F 77 (nI d) (nI c) z 0 σ = f_X12_lifts_32 (f_X12_lifts_23 (999999 - n)) (1000000 - w) 77 (nI d) (nI c) z (nI n) (nI w) τ ∧ kp_chM kp_xM kp_jM σ τ := by
  have h5 := hA.1.1.2.1
  have h0 : 0 < kt_nc (ka_T A) := by omega
  intro n
  induction n with
  | zero =>
    intro hn w hw hu
    have base : f_X12_lifts_23 kf_F 77 (nI d) (nI c) z 0 σ = f_X12_lifts_32 (f_X12_lifts_23 (999999 - 0)) (1000000 - 0) 77 (nI d) (nI c) z (nI 0) (nI 0) σ := by
      show f_X12_lifts_23_s (f_X12_lifts_23 999999) 77 (nI d) (nI c) z 0 σ = _
      unfold f_X12_lifts_23_s
      rw [if_neg (by decide)]
      rfl
    by_cases w0 : w = 0
    · subst w0
      exact ⟨σ, base, kp_chM.rf⟩
    · obtain rfl : w = 1 := by have : w ≤ 1 := hw; omega
      obtain ⟨τ, e1, e2⟩ := kM_dw hA h (n := 0) (w := 0) hd hc (by decide) (by rw [Nat.pow_zero]; decide)
      obtain ⟨lv, hm⟩ := h.1
      have hl := hm.1
      have ng : ¬ kp_kn (ka_T A) (kp_wq (ka_T A) ((ka_S A).1 d) (nI (ka_S A).2.2.2) 0 0).1 = nI c := fun e => hu 0 (by show 0 < 0 + 1; decide) ((kp_G0 h0).mpr e)
      rw [if_neg ng] at e1
      refine ⟨τ, base.trans ?_, e2⟩
      show f_X12_lifts_32_s _ (f_X12_lifts_32 (f_X12_lifts_23 (999999 - 0)) 999999) 77 (nI d) (nI c) z (nI 0) (nI 0) σ = _
      unfold f_X12_lifts_32_s
      simp (disch := omega) only [↓reduceIte, kz_lt, Option.bind_some, kz_ix, kz_leT, kz_leF, kz_ltT, kz_ltF, kz_lt0, kz_0le, kz_0ltT, kz_le0F, kz_eq0F, kz_10, kz_00, kz_11, kz_01, nI_clamp, nI_1, nI_add, pk_mul, kc0, kc1, kc2, kc3, kc4, kc5, kc6, kc7, kc8, kc9, kc10, kx0, kx1, kx2, kx3, kx4, kx5, kx6, kx7, kx8, kr77_1, kr77_3, kr77_5, kr77_6, kr77_7, kr77_8, kr77_9, kr77_21, kr77_22, kr77_23, kr77_24, kr77_25, kr77_26, kr77_27, kr77_28, kr77_29, kr77_30, kr77_31, kr77_32, kr77_33, kr77_34, kr77_35, kr77_36, kr77_38, kr77_39, kr77_40, kr77_41, kr77_42, kr77_44, kr77_45, kr77_46, kr77_48, kr77_49, kr77_51, kr77_52, kr77_55, kr77_57, kr77_58, kr77_59, kr77_61, kr77_62, kr77_63, kr77_64, kr77_65, kl78, kl79, kl80, kl81, kl82, kl83, kl84, kl85, kl86, kl87, kl88, kl89, kl90, kl91, kl92, kl93, kl94, kl95, kl96, kl97, kl98, kl99, kl100, kl101, kl102, kl103, kl104, kl105, kl106, kl107, kl108, kl109, kl110, kl111, kl112, kl113, kl114, kl115, kl116, kl117, kl118, kl119, kl120, kl121, hm.2.1, hm.2.2.1.2.1, kM_pow h5 (show 0 ≤ 4 by decide), e1]
      rfl
  | succ n ih =>
    intro hn w
    have b1 := kp_os_all _ h5 n (by omega)
    have b2 := kp_os_all _ h5 (n + 1) (by omega)
    induction w with
    | zero =>
      intro hw hu
      rw [Nat.add_zero] at hu
      rw [kp_os_s] at hu
      obtain ⟨τ, e1, e2⟩ := ih (by omega) (kt_nc (ka_T A) ^ n) (Nat.le_refl _) hu
      obtain ⟨lv, hm⟩ := (h.ch e2).1
      have hl := hm.1
      refine ⟨τ, e1.trans ?_, e2⟩
      rw [show 1000000 - kt_nc (ka_T A) ^ n = 999999 - kt_nc (ka_T A) ^ n + 1 by omega]
      show f_X12_lifts_32_s _ _ 77 (nI d) (nI c) z (nI n) (nI (kt_nc (ka_T A) ^ n)) τ = _
      unfold f_X12_lifts_32_s
      simp (disch := omega) only [↓reduceIte, kz_lt, Option.bind_some, kz_ix, kz_leT, kz_leF, kz_ltT, kz_ltF, kz_lt0, kz_0le, kz_0ltT, kz_le0F, kz_eq0F, kz_10, kz_00, kz_11, kz_01, nI_clamp, nI_1, nI_add, pk_mul, kc0, kc1, kc2, kc3, kc4, kc5, kc6, kc7, kc8, kc9, kc10, kx0, kx1, kx2, kx3, kx4, kx5, kx6, kx7, kx8, kr77_1, kr77_3, kr77_5, kr77_6, kr77_7, kr77_8, kr77_9, kr77_21, kr77_22, kr77_23, kr77_24, kr77_25, kr77_26, kr77_27, kr77_28, kr77_29, kr77_30, kr77_31, kr77_32, kr77_33, kr77_34, kr77_35, kr77_36, kr77_38, kr77_39, kr77_40, kr77_41, kr77_42, kr77_44, kr77_45, kr77_46, kr77_48, kr77_49, kr77_51, kr77_52, kr77_55, kr77_57, kr77_58, kr77_59, kr77_61, kr77_62, kr77_63, kr77_64, kr77_65, kl78, kl79, kl80, kl81, kl82, kl83, kl84, kl85, kl86, kl87, kl88, kl89, kl90, kl91, kl92, kl93, kl94, kl95, kl96, kl97, kl98, kl99, kl100, kl101, kl102, kl103, kl104, kl105, kl106, kl107, kl108, kl109, kl110, kl111, kl112, kl113, kl114, kl115, kl116, kl117, kl118, kl119, kl120, kl121, hm.2.1, hm.2.2.1.2.1, kM_pow h5 (show n ≤ 4 by omega)]
      rw [show 999999 - n = 999999 - (n + 1) + 1 by omega]
      show f_X12_lifts_23_s _ 77 (nI d) (nI c) z (nI (n + 1)) τ = _
      unfold f_X12_lifts_23_s
      rw [if_neg (show ¬ (4 : Int32) < nI (n + 1) from nI_nlt (a := 4) (b := n + 1) (by omega) (by decide))]
      rfl
    | succ w ihw =>
      intro hw hu
      obtain ⟨τ, e1, e2⟩ := ihw (by omega) (fun u hu' => hu u (by omega))
      have h' := h.ch e2
      obtain ⟨lv, hm⟩ := h'.1
      have hl := hm.1
      obtain ⟨τ2, f1, f2⟩ := kM_dw hA h' (n := n + 1) (w := w) hd hc hn (by omega)
      have ng : ¬ kp_kn (ka_T A) (kp_wq (ka_T A) ((ka_S A).1 d) (nI (ka_S A).2.2.2) (n + 1) w).1 = nI c := fun e => hu _ (by omega) ((kp_G_iff h0 hn (by omega)).mpr e)
      rw [if_neg ng] at f1
      refine ⟨τ2, e1.trans ?_, e2.tr f2⟩
      rw [show 1000000 - w = 1000000 - (w + 1) + 1 by omega]
      show f_X12_lifts_32_s _ _ 77 (nI d) (nI c) z (nI (n + 1)) (nI w) τ = _
      unfold f_X12_lifts_32_s
      simp (disch := omega) only [↓reduceIte, kz_lt, Option.bind_some, kz_ix, kz_leT, kz_leF, kz_ltT, kz_ltF, kz_lt0, kz_0le, kz_0ltT, kz_le0F, kz_eq0F, kz_10, kz_00, kz_11, kz_01, nI_clamp, nI_1, nI_add, pk_mul, kc0, kc1, kc2, kc3, kc4, kc5, kc6, kc7, kc8, kc9, kc10, kx0, kx1, kx2, kx3, kx4, kx5, kx6, kx7, kx8, kr77_1, kr77_3, kr77_5, kr77_6, kr77_7, kr77_8, kr77_9, kr77_21, kr77_22, kr77_23, kr77_24, kr77_25, kr77_26, kr77_27, kr77_28, kr77_29, kr77_30, kr77_31, kr77_32, kr77_33, kr77_34, kr77_35, kr77_36, kr77_38, kr77_39, kr77_40, kr77_41, kr77_42, kr77_44, kr77_45, kr77_46, kr77_48, kr77_49, kr77_51, kr77_52, kr77_55, kr77_57, kr77_58, kr77_59, kr77_61, kr77_62, kr77_63, kr77_64, kr77_65, kl78, kl79, kl80, kl81, kl82, kl83, kl84, kl85, kl86, kl87, kl88, kl89, kl90, kl91, kl92, kl93, kl94, kl95, kl96, kl97, kl98, kl99, kl100, kl101, kl102, kl103, kl104, kl105, kl106, kl107, kl108, kl109, kl110, kl111, kl112, kl113, kl114, kl115, kl116, kl117, kl118, kl119, kl120, kl121, hm.2.1, hm.2.2.1.2.1, kM_pow h5 (show n + 1 ≤ 4 by omega), f1]
theorem kp_up_all : ∀ n, n ≤ 4 → ∀ i, i < 4 → n ≤ i → nI n - 1 - nI i < 0 := by decide +kernel
theorem kq_lifts {A : kp_A} {k : Nat} (hA : kp_Aok A k) (x y z : Int32) : kp_qq A (f_X11_lifts 0 x y z) (f_X12_lifts 77 x y z) := by
  have h6 := hA.1.1.1
  have h5 := hA.1.1.2.1
  refine kp_dc x y hA.1 (fun hx => ?_) (fun d c hd hc ex ey => ?_)
  · refine kp_qq.st (-1) (fun σ h => ?_) (fun σ h => ?_)
    · unfold f_X11_lifts
      simp (disch := omega) only [↓reduceIte, kz_lt, Option.bind_some, kz_ix, kz_leT, kz_leF, kz_ltT, kz_ltF, kz_lt0, kz_0le, kz_0ltT, kz_le0F, kz_eq0F, kz_10, kz_00, kz_11, kz_01, nI_clamp, nI_1, nI_add, pk_mul, kc0, kc1, kc2, kc3, kc4, kc5, kc6, kc7, kc8, kc9, kc10, kx0, kx1, kx2, kx3, kx4, kx5, kx6, kx7, kx8, kr0_0, kr0_1, kr0_2, kr0_3, kr0_4, kr0_5, kr0_6, kr0_7, kr0_8, kr0_9, kr1_1, kr1_2, kr1_3, kr1_4, kr1_5, kr7_6, kr7_7, kr7_8, kr7_9, kr7_10, kr7_11, kr7_12, kr7_13, kr7_14, kr7_15, kr7_16, kr16_1, kr16_2, kr19_1, kr19_2, kr22_1, kr22_2, kr25_6, kr25_7, kr25_8, kr25_9, kr25_10, kr25_11, kr25_12, kr25_13, kr25_14, kr25_15, kr25_16, kr34_1, kr34_2, kr37_1, kr37_2, kr40_1, kr40_2, kr43_2, kr43_3, kr44_0, kr44_1, kr44_4, kr46_0, kr48_0, kr50_0, kr52_0, kr54_0, kr56_0, kr60_3, kr60_4, kr63_0, kr63_1, kr63_2, kr66_0, kr66_1, kr66_2, kr66_3, kr66_4, kr67_0, kr70_0, kr70_1, kr70_2, kr72_1, kr72_2, kr72_3, kr72_4, kr72_5, kr72_6, kr72_7, kl2, kl3, kl4, kl5, kl6, kl8, kl9, kl10, kl11, kl12, kl13, kl14, kl15, kl17, kl18, kl20, kl21, kl23, kl24, kl26, kl27, kl28, kl29, kl30, kl31, kl32, kl33, kl35, kl36, kl38, kl39, kl41, kl42, kl45, kl47, kl49, kl51, kl53, kl55, kl57, kl58, kl59, kl61, kl62, kl64, kl65, kl68, kl69, kl71, kl73, kl74, kl75, kl76, kC_bothF hA h hx]
    · obtain ⟨lv, hm⟩ := h.1
      unfold f_X12_lifts
      simp (disch := omega) only [↓reduceIte, kz_lt, Option.bind_some, kz_ix, kz_leT, kz_leF, kz_ltT, kz_ltF, kz_lt0, kz_0le, kz_0ltT, kz_le0F, kz_eq0F, kz_10, kz_00, kz_11, kz_01, nI_clamp, nI_1, nI_add, pk_mul, kc0, kc1, kc2, kc3, kc4, kc5, kc6, kc7, kc8, kc9, kc10, kx0, kx1, kx2, kx3, kx4, kx5, kx6, kx7, kx8, kr77_1, kr77_3, kr77_5, kr77_6, kr77_7, kr77_8, kr77_9, kr77_21, kr77_22, kr77_23, kr77_24, kr77_25, kr77_26, kr77_27, kr77_28, kr77_29, kr77_30, kr77_31, kr77_32, kr77_33, kr77_34, kr77_35, kr77_36, kr77_38, kr77_39, kr77_40, kr77_41, kr77_42, kr77_44, kr77_45, kr77_46, kr77_48, kr77_49, kr77_51, kr77_52, kr77_55, kr77_57, kr77_58, kr77_59, kr77_61, kr77_62, kr77_63, kr77_64, kr77_65, kl78, kl79, kl80, kl81, kl82, kl83, kl84, kl85, kl86, kl87, kl88, kl89, kl90, kl91, kl92, kl93, kl94, kl95, kl96, kl97, kl98, kl99, kl100, kl101, kl102, kl103, kl104, kl105, kl106, kl107, kl108, kl109, kl110, kl111, kl112, kl113, kl114, kl115, kl116, kl117, kl118, kl119, kl120, kl121, kM_bothF hA.1 hm hx]
  · subst ex ey
    have h0 : 0 < kt_nc (ka_T A) := by omega
    by_cases z1 : z < -1
    · refine kp_qq.st (-1) (fun σ h => ?_) (fun σ h => ?_)
      · unfold f_X11_lifts
        simp (disch := omega) only [↓reduceIte, kz_lt, Option.bind_some, kz_ix, kz_leT, kz_leF, kz_ltT, kz_ltF, kz_lt0, kz_0le, kz_0ltT, kz_le0F, kz_eq0F, kz_10, kz_00, kz_11, kz_01, nI_clamp, nI_1, nI_add, pk_mul, kc0, kc1, kc2, kc3, kc4, kc5, kc6, kc7, kc8, kc9, kc10, kx0, kx1, kx2, kx3, kx4, kx5, kx6, kx7, kx8, kr0_0, kr0_1, kr0_2, kr0_3, kr0_4, kr0_5, kr0_6, kr0_7, kr0_8, kr0_9, kr1_1, kr1_2, kr1_3, kr1_4, kr1_5, kr7_6, kr7_7, kr7_8, kr7_9, kr7_10, kr7_11, kr7_12, kr7_13, kr7_14, kr7_15, kr7_16, kr16_1, kr16_2, kr19_1, kr19_2, kr22_1, kr22_2, kr25_6, kr25_7, kr25_8, kr25_9, kr25_10, kr25_11, kr25_12, kr25_13, kr25_14, kr25_15, kr25_16, kr34_1, kr34_2, kr37_1, kr37_2, kr40_1, kr40_2, kr43_2, kr43_3, kr44_0, kr44_1, kr44_4, kr46_0, kr48_0, kr50_0, kr52_0, kr54_0, kr56_0, kr60_3, kr60_4, kr63_0, kr63_1, kr63_2, kr66_0, kr66_1, kr66_2, kr66_3, kr66_4, kr67_0, kr70_0, kr70_1, kr70_2, kr72_1, kr72_2, kr72_3, kr72_4, kr72_5, kr72_6, kr72_7, kl2, kl3, kl4, kl5, kl6, kl8, kl9, kl10, kl11, kl12, kl13, kl14, kl15, kl17, kl18, kl20, kl21, kl23, kl24, kl26, kl27, kl28, kl29, kl30, kl31, kl32, kl33, kl35, kl36, kl38, kl39, kl41, kl42, kl45, kl47, kl49, kl51, kl53, kl55, kl57, kl58, kl59, kl61, kl62, kl64, kl65, kl68, kl69, kl71, kl73, kl74, kl75, kl76, kC_both hA h hd hc, z1]
      · obtain ⟨lv, hm⟩ := h.1
        unfold f_X12_lifts f_X12_in
        simp (disch := omega) only [↓reduceIte, kz_lt, Option.bind_some, kz_ix, kz_leT, kz_leF, kz_ltT, kz_ltF, kz_lt0, kz_0le, kz_0ltT, kz_le0F, kz_eq0F, kz_10, kz_00, kz_11, kz_01, nI_clamp, nI_1, nI_add, pk_mul, kc0, kc1, kc2, kc3, kc4, kc5, kc6, kc7, kc8, kc9, kc10, kx0, kx1, kx2, kx3, kx4, kx5, kx6, kx7, kx8, kr77_1, kr77_3, kr77_5, kr77_6, kr77_7, kr77_8, kr77_9, kr77_21, kr77_22, kr77_23, kr77_24, kr77_25, kr77_26, kr77_27, kr77_28, kr77_29, kr77_30, kr77_31, kr77_32, kr77_33, kr77_34, kr77_35, kr77_36, kr77_38, kr77_39, kr77_40, kr77_41, kr77_42, kr77_44, kr77_45, kr77_46, kr77_48, kr77_49, kr77_51, kr77_52, kr77_55, kr77_57, kr77_58, kr77_59, kr77_61, kr77_62, kr77_63, kr77_64, kr77_65, kl78, kl79, kl80, kl81, kl82, kl83, kl84, kl85, kl86, kl87, kl88, kl89, kl90, kl91, kl92, kl93, kl94, kl95, kl96, kl97, kl98, kl99, kl100, kl101, kl102, kl103, kl104, kl105, kl106, kl107, kl108, kl109, kl110, kl111, kl112, kl113, kl114, kl115, kl116, kl117, kl118, kl119, kl120, kl121, kM_both hA.1 hm hd hc, z1]
    by_cases z2 : 3 < z
    · have z3 : ¬ z < 4 := fun e => by
        have a := kp_ltI.mp z2
        have b := kp_ltI.mp e
        have e2 : (3 : Int32).toInt = 3 := by decide
        have e3 : (4 : Int32).toInt = 4 := by decide
        omega
      refine kp_qq.st (-1) (fun σ h => ?_) (fun σ h => ?_)
      · unfold f_X11_lifts
        simp (disch := omega) only [↓reduceIte, kz_lt, Option.bind_some, kz_ix, kz_leT, kz_leF, kz_ltT, kz_ltF, kz_lt0, kz_0le, kz_0ltT, kz_le0F, kz_eq0F, kz_10, kz_00, kz_11, kz_01, nI_clamp, nI_1, nI_add, pk_mul, kc0, kc1, kc2, kc3, kc4, kc5, kc6, kc7, kc8, kc9, kc10, kx0, kx1, kx2, kx3, kx4, kx5, kx6, kx7, kx8, kr0_0, kr0_1, kr0_2, kr0_3, kr0_4, kr0_5, kr0_6, kr0_7, kr0_8, kr0_9, kr1_1, kr1_2, kr1_3, kr1_4, kr1_5, kr7_6, kr7_7, kr7_8, kr7_9, kr7_10, kr7_11, kr7_12, kr7_13, kr7_14, kr7_15, kr7_16, kr16_1, kr16_2, kr19_1, kr19_2, kr22_1, kr22_2, kr25_6, kr25_7, kr25_8, kr25_9, kr25_10, kr25_11, kr25_12, kr25_13, kr25_14, kr25_15, kr25_16, kr34_1, kr34_2, kr37_1, kr37_2, kr40_1, kr40_2, kr43_2, kr43_3, kr44_0, kr44_1, kr44_4, kr46_0, kr48_0, kr50_0, kr52_0, kr54_0, kr56_0, kr60_3, kr60_4, kr63_0, kr63_1, kr63_2, kr66_0, kr66_1, kr66_2, kr66_3, kr66_4, kr67_0, kr70_0, kr70_1, kr70_2, kr72_1, kr72_2, kr72_3, kr72_4, kr72_5, kr72_6, kr72_7, kl2, kl3, kl4, kl5, kl6, kl8, kl9, kl10, kl11, kl12, kl13, kl14, kl15, kl17, kl18, kl20, kl21, kl23, kl24, kl26, kl27, kl28, kl29, kl30, kl31, kl32, kl33, kl35, kl36, kl38, kl39, kl41, kl42, kl45, kl47, kl49, kl51, kl53, kl55, kl57, kl58, kl59, kl61, kl62, kl64, kl65, kl68, kl69, kl71, kl73, kl74, kl75, kl76, kC_both hA h hd hc, z1, z3]
      · obtain ⟨lv, hm⟩ := h.1
        unfold f_X12_lifts f_X12_in
        simp (disch := omega) only [↓reduceIte, kz_lt, Option.bind_some, kz_ix, kz_leT, kz_leF, kz_ltT, kz_ltF, kz_lt0, kz_0le, kz_0ltT, kz_le0F, kz_eq0F, kz_10, kz_00, kz_11, kz_01, nI_clamp, nI_1, nI_add, pk_mul, kc0, kc1, kc2, kc3, kc4, kc5, kc6, kc7, kc8, kc9, kc10, kx0, kx1, kx2, kx3, kx4, kx5, kx6, kx7, kx8, kr77_1, kr77_3, kr77_5, kr77_6, kr77_7, kr77_8, kr77_9, kr77_21, kr77_22, kr77_23, kr77_24, kr77_25, kr77_26, kr77_27, kr77_28, kr77_29, kr77_30, kr77_31, kr77_32, kr77_33, kr77_34, kr77_35, kr77_36, kr77_38, kr77_39, kr77_40, kr77_41, kr77_42, kr77_44, kr77_45, kr77_46, kr77_48, kr77_49, kr77_51, kr77_52, kr77_55, kr77_57, kr77_58, kr77_59, kr77_61, kr77_62, kr77_63, kr77_64, kr77_65, kl78, kl79, kl80, kl81, kl82, kl83, kl84, kl85, kl86, kl87, kl88, kl89, kl90, kl91, kl92, kl93, kl94, kl95, kl96, kl97, kl98, kl99, kl100, kl101, kl102, kl103, kl104, kl105, kl106, kl107, kl108, kl109, kl110, kl111, kl112, kl113, kl114, kl115, kl116, kl117, kl118, kl119, kl120, kl121, kM_both hA.1 hm hd hc, z1, z2]
    have z3 : z < 4 := by
      have a : ¬ (3 : Int32).toInt < z.toInt := fun e => z2 (kp_ltI.mpr e)
      have e2 : (3 : Int32).toInt = 3 := by decide
      have e3 : (4 : Int32).toInt = 4 := by decide
      exact kp_ltI.mpr (by omega)
    have zc : z = -1 ∨ ∃ i, i < 4 ∧ z = nI i := by
      have a : ¬ z.toInt < (-1 : Int32).toInt := fun e => z1 (kp_ltI.mpr e)
      have e2 : (-1 : Int32).toInt = -1 := by decide
      have e3 := kp_ltI.mp z3
      have e4 : (4 : Int32).toInt = 4 := by decide
      by_cases b : z.toInt = -1
      · exact Or.inl (Int32.toInt_inj.mp (b.trans e2.symm))
      · obtain ⟨j, hj, rfl⟩ := (kp_is_iff (x := z) (n := 4) (by decide)).mp (kp_isI.mpr ⟨by omega, by omega⟩)
        exact Or.inr ⟨j, hj, rfl⟩
    have cls : ∀ σ, kp_Cr A σ → f_X11_lifts 0 (nI d) (nI c) z σ = (f_X0_nodeKnownBy 66 (nI d) (nI c) σ).bind fun q_5 => if 0 ≤ q_5.1 then if z = (-1) then (f_X0_levelOf 66 q_5.1 q_5.2).bind fun q_9 => some (q_9.1, q_9.2) else (f_X0_callerOnPath 66 q_5.1 z q_5.2).bind fun q_8 => some (q_8.1, q_8.2) else some ((-2), q_5.2) := fun σ h => by
      unfold f_X11_lifts
      simp (disch := omega) only [↓reduceIte, kz_lt, Option.bind_some, kz_ix, kz_leT, kz_leF, kz_ltT, kz_ltF, kz_lt0, kz_0le, kz_0ltT, kz_le0F, kz_eq0F, kz_10, kz_00, kz_11, kz_01, nI_clamp, nI_1, nI_add, pk_mul, kc0, kc1, kc2, kc3, kc4, kc5, kc6, kc7, kc8, kc9, kc10, kx0, kx1, kx2, kx3, kx4, kx5, kx6, kx7, kx8, kr0_0, kr0_1, kr0_2, kr0_3, kr0_4, kr0_5, kr0_6, kr0_7, kr0_8, kr0_9, kr1_1, kr1_2, kr1_3, kr1_4, kr1_5, kr7_6, kr7_7, kr7_8, kr7_9, kr7_10, kr7_11, kr7_12, kr7_13, kr7_14, kr7_15, kr7_16, kr16_1, kr16_2, kr19_1, kr19_2, kr22_1, kr22_2, kr25_6, kr25_7, kr25_8, kr25_9, kr25_10, kr25_11, kr25_12, kr25_13, kr25_14, kr25_15, kr25_16, kr34_1, kr34_2, kr37_1, kr37_2, kr40_1, kr40_2, kr43_2, kr43_3, kr44_0, kr44_1, kr44_4, kr46_0, kr48_0, kr50_0, kr52_0, kr54_0, kr56_0, kr60_3, kr60_4, kr63_0, kr63_1, kr63_2, kr66_0, kr66_1, kr66_2, kr66_3, kr66_4, kr67_0, kr70_0, kr70_1, kr70_2, kr72_1, kr72_2, kr72_3, kr72_4, kr72_5, kr72_6, kr72_7, kl2, kl3, kl4, kl5, kl6, kl8, kl9, kl10, kl11, kl12, kl13, kl14, kl15, kl17, kl18, kl20, kl21, kl23, kl24, kl26, kl27, kl28, kl29, kl30, kl31, kl32, kl33, kl35, kl36, kl38, kl39, kl41, kl42, kl45, kl47, kl49, kl51, kl53, kl55, kl57, kl58, kl59, kl61, kl62, kl64, kl65, kl68, kl69, kl71, kl73, kl74, kl75, kl76, kC_both hA h hd hc, z1, z3]
    have mdl : ∀ σ, kp_Mr A σ → f_X12_lifts 77 (nI d) (nI c) z σ = f_X12_lifts_23 kf_F 77 (nI d) (nI c) z 0 σ := fun σ h => by
      obtain ⟨lv, hm⟩ := h.1
      unfold f_X12_lifts f_X12_in
      simp (disch := omega) only [↓reduceIte, kz_lt, Option.bind_some, kz_ix, kz_leT, kz_leF, kz_ltT, kz_ltF, kz_lt0, kz_0le, kz_0ltT, kz_le0F, kz_eq0F, kz_10, kz_00, kz_11, kz_01, nI_clamp, nI_1, nI_add, pk_mul, kc0, kc1, kc2, kc3, kc4, kc5, kc6, kc7, kc8, kc9, kc10, kx0, kx1, kx2, kx3, kx4, kx5, kx6, kx7, kx8, kr77_1, kr77_3, kr77_5, kr77_6, kr77_7, kr77_8, kr77_9, kr77_21, kr77_22, kr77_23, kr77_24, kr77_25, kr77_26, kr77_27, kr77_28, kr77_29, kr77_30, kr77_31, kr77_32, kr77_33, kr77_34, kr77_35, kr77_36, kr77_38, kr77_39, kr77_40, kr77_41, kr77_42, kr77_44, kr77_45, kr77_46, kr77_48, kr77_49, kr77_51, kr77_52, kr77_55, kr77_57, kr77_58, kr77_59, kr77_61, kr77_62, kr77_63, kr77_64, kr77_65, kl78, kl79, kl80, kl81, kl82, kl83, kl84, kl85, kl86, kl87, kl88, kl89, kl90, kl91, kl92, kl93, kl94, kl95, kl96, kl97, kl98, kl99, kl100, kl101, kl102, kl103, kl104, kl105, kl106, kl107, kl108, kl109, kl110, kl111, kl112, kl113, kl114, kl115, kl116, kl117, kl118, kl119, kl120, kl121, kM_both hA.1 hm hd hc, z1, z2]
    rcases kp_least (P := kp_G A d c) (kp_os (kt_nc (ka_T A)) 5) with hn | ⟨v, hv, gv, hu⟩
    · refine ⟨-2, fun σ h => ?_, fun σ h => ?_⟩
      · obtain ⟨τ, e1, e2⟩ := (kC_nkb hA h hd hc).2 hn
        refine ⟨τ, ?_, e2⟩
        rw [cls σ h, e1, Option.bind_some]
        exact if_neg (show ¬ (0 : Int32) ≤ -2 by decide)
      · have b4 := kp_os_all _ h5 4 (by omega)
        have o5 : kp_os (kt_nc (ka_T A)) 5 = kp_os (kt_nc (ka_T A)) 4 + kt_nc (ka_T A) ^ 4 := kp_os_s _ 4
        obtain ⟨τ, e1, e2⟩ := kM_ladv hA h hd hc z 4 (by decide) (kt_nc (ka_T A) ^ 4) (Nat.le_refl _) (fun u hu => hn u (by omega))
        obtain ⟨lv, hm⟩ := (h.ch e2).1
        have hl := hm.1
        refine ⟨τ, ?_, e2⟩
        rw [mdl σ h, e1, show 1000000 - kt_nc (ka_T A) ^ 4 = 999999 - kt_nc (ka_T A) ^ 4 + 1 by omega]
        show f_X12_lifts_32_s _ _ 77 (nI d) (nI c) z (nI 4) (nI (kt_nc (ka_T A) ^ 4)) τ = _
        unfold f_X12_lifts_32_s
        simp (disch := omega) only [↓reduceIte, kz_lt, Option.bind_some, kz_ix, kz_leT, kz_leF, kz_ltT, kz_ltF, kz_lt0, kz_0le, kz_0ltT, kz_le0F, kz_eq0F, kz_10, kz_00, kz_11, kz_01, nI_clamp, nI_1, nI_add, pk_mul, kc0, kc1, kc2, kc3, kc4, kc5, kc6, kc7, kc8, kc9, kc10, kx0, kx1, kx2, kx3, kx4, kx5, kx6, kx7, kx8, kr77_1, kr77_3, kr77_5, kr77_6, kr77_7, kr77_8, kr77_9, kr77_21, kr77_22, kr77_23, kr77_24, kr77_25, kr77_26, kr77_27, kr77_28, kr77_29, kr77_30, kr77_31, kr77_32, kr77_33, kr77_34, kr77_35, kr77_36, kr77_38, kr77_39, kr77_40, kr77_41, kr77_42, kr77_44, kr77_45, kr77_46, kr77_48, kr77_49, kr77_51, kr77_52, kr77_55, kr77_57, kr77_58, kr77_59, kr77_61, kr77_62, kr77_63, kr77_64, kr77_65, kl78, kl79, kl80, kl81, kl82, kl83, kl84, kl85, kl86, kl87, kl88, kl89, kl90, kl91, kl92, kl93, kl94, kl95, kl96, kl97, kl98, kl99, kl100, kl101, kl102, kl103, kl104, kl105, kl106, kl107, kl108, kl109, kl110, kl111, kl112, kl113, kl114, kl115, kl116, kl117, kl118, kl119, kl120, kl121, hm.2.1, hm.2.2.1.2.1, kM_pow h5 (show 4 ≤ 4 by decide)]
        show f_X12_lifts_23_s _ 77 (nI d) (nI c) z (nI 5) τ = _
        unfold f_X12_lifts_23_s
        exact if_pos (by decide)
    · obtain ⟨n, w, hn5, hw, ev⟩ := kp_os_at (c := kt_nc (ka_T A)) 5 v hv
      have hn4 : n ≤ 4 := by omega
      have b5 := (kp_os_all _ h5 5 (by omega)).1
      have bn := kp_os_all _ h5 n (by omega)
      have g := (kp_G_iff h0 hn4 hw).mp (by rw [← ev]; exact gv)
      refine ⟨if z = -1 then nI n else if nI n ≤ z then -1 else nI (w / kt_nc (ka_T A) ^ (n - 1 - z.toNatClampNeg) % kt_nc (ka_T A)), fun σ h => ?_, fun σ h => ?_⟩
      · obtain ⟨τ, e1, e2⟩ := (kC_nkb hA h hd hc).1 v hv gv hu
        have h' := h.ch hA e2
        refine ⟨τ, ?_, e2⟩
        rw [cls σ h, e1, Option.bind_some]
        dsimp only
        rw [if_pos (nI_pos' (by omega)), ev]
        rcases zc with rfl | ⟨i, hi, rfl⟩
        · rw [if_pos rfl, if_pos rfl, kC_lev h0 h5 h'.1.1.2.1 hn4 hw]
          rfl
        · have nz : ¬ nI i = -1 := fun e => nI_pos (n := i) (by omega) (by rw [e]; decide)
          rw [if_neg nz, if_neg nz]
          by_cases b : n ≤ i
          · rw [if_pos (nI_le b (by omega))]
            unfold f_X0_callerOnPath
            rw [kC_lev h0 h5 h'.1.1.2.1 hn4 hw, Option.bind_some]
            simp only [kf_lt]
            rw [if_pos (kp_up_all n hn4 i hi b)]
            rfl
          · rw [if_neg (nI_ge (by omega) (by omega)), kC_cop h0 h5 h'.1.1.2.1 (by omega) hn4 hw, nI_clamp (by omega)]
            rfl
      · obtain ⟨τ, e1, e2⟩ := kM_ladv hA h hd hc z n hn4 w (by omega) (fun u hu' => hu u (by omega))
        have h' := h.ch e2
        obtain ⟨lv, hm⟩ := h'.1
        have hl := hm.1
        obtain ⟨τ2, f1, f2⟩ := kM_dw hA h' hd hc hn4 hw
        rw [if_pos g] at f1
        have hm2 := kM_wm hm f2
        refine ⟨τ2, ?_, e2.tr f2⟩
        rw [mdl σ h, e1, show 1000000 - w = 999999 - w + 1 by omega]
        show f_X12_lifts_32_s _ _ 77 (nI d) (nI c) z (nI n) (nI w) τ = _
        unfold f_X12_lifts_32_s
        simp (disch := omega) only [↓reduceIte, kz_lt, Option.bind_some, kz_ix, kz_leT, kz_leF, kz_ltT, kz_ltF, kz_lt0, kz_0le, kz_0ltT, kz_le0F, kz_eq0F, kz_10, kz_00, kz_11, kz_01, nI_clamp, nI_1, nI_add, pk_mul, kc0, kc1, kc2, kc3, kc4, kc5, kc6, kc7, kc8, kc9, kc10, kx0, kx1, kx2, kx3, kx4, kx5, kx6, kx7, kx8, kr77_1, kr77_3, kr77_5, kr77_6, kr77_7, kr77_8, kr77_9, kr77_21, kr77_22, kr77_23, kr77_24, kr77_25, kr77_26, kr77_27, kr77_28, kr77_29, kr77_30, kr77_31, kr77_32, kr77_33, kr77_34, kr77_35, kr77_36, kr77_38, kr77_39, kr77_40, kr77_41, kr77_42, kr77_44, kr77_45, kr77_46, kr77_48, kr77_49, kr77_51, kr77_52, kr77_55, kr77_57, kr77_58, kr77_59, kr77_61, kr77_62, kr77_63, kr77_64, kr77_65, kl78, kl79, kl80, kl81, kl82, kl83, kl84, kl85, kl86, kl87, kl88, kl89, kl90, kl91, kl92, kl93, kl94, kl95, kl96, kl97, kl98, kl99, kl100, kl101, kl102, kl103, kl104, kl105, kl106, kl107, kl108, kl109, kl110, kl111, kl112, kl113, kl114, kl115, kl116, kl117, kl118, kl119, kl120, kl121, hm.2.1, hm.2.2.1.2.1, kM_pow h5 hn4, f1]
        rcases zc with rfl | ⟨i, hi, rfl⟩
        · rw [if_pos rfl, if_pos rfl]
        · have nz : ¬ nI i = -1 := fun e => nI_pos (n := i) (by omega) (by rw [e]; decide)
          rw [if_neg nz, if_neg nz]
          by_cases b : n ≤ i
          · rw [if_pos (nI_le b (by omega)), if_pos (nI_le b (by omega))]
          · rw [if_neg (nI_ge (by omega) (by omega)), if_neg (nI_ge (by omega) (by omega)), kM_dig hA.1 hm2 h0 (by omega) hn4 hw, nI_clamp (by omega)]
            rfl
