/-! ===== pure: the reference reads doors and callers (2) ===== -/
theorem kM_room {X : kx_X} {s : kx_S} {σ : kf_St} {n M : Nat} (h : kx_RM X s σ) (z0 : s.2 = 0) (hK : kx_K X s.1 ≠ 0 ∧ kx_K X s.1 ≠ 1) (hn : n ≤ M) (hM : M < 100) : ∃ τ, f_X12_roomFor 77 (nI n) (nI M) σ = some τ ∧ kx_RM X (if n < M then kx_tk X (kx_K X s.1) s else (s.1, 2)) τ ∧ kx_fr kx_mT kx_n0 σ τ := by
  unfold f_X12_roomFor f_X12_roomFor_10
  by_cases c : n < M
  · rw [if_neg (fun q => absurd ((nI_eq (by omega) (by omega)).mp q) (by omega)), h.2.2.1, if_pos (show nI s.2 = 0 by rw [z0]; rfl), if_pos c]
    obtain ⟨τ, a1, a2, a3⟩ := kM_gon h z0 hK
    refine ⟨τ, ?_, a2, a3⟩
    rw [a1, Option.bind_some]
  · rw [if_pos (show nI n = nI M by rw [show n = M by omega]), if_neg c]
    obtain ⟨τ, t1, t2, t3⟩ := kM_fail (k := 2) h (by decide)
    rw [if_pos z0] at t2
    refine ⟨τ, ?_, t2, t3.mono (fun a b q => by unfold kx_mT; omega) (fun _ _ q => q)⟩
    rw [show f_X12_fail 77 2 σ = some τ from t1, Option.bind_some, t2.2.2.1, if_neg (show ¬ nI 2 = 0 by decide)]
theorem kx_no_0 {X : kx_X} {k t : Nat} {l : kx_sl} (hk : k ≠ 0) : (kx_no X k t l).1 ≠ 0 := by
  unfold kx_no
  by_cases c : l.1 = 0
  · rw [if_pos c]; exact hk
  · rw [if_neg c]; exact c
theorem kx_nu_0 {X : kx_X} {lo hi : Nat} {s : kx_S} {l : kx_sl} (h : (kx_nu X lo hi s l).1 = 0) : l.1 = 0 ∧ lo ≤ kx_N X s.1 ∧ kx_N X s.1 ≤ hi := by
  unfold kx_nu at h
  by_cases c : kx_N X s.1 < lo ∨ hi < kx_N X s.1
  · rw [if_pos c] at h; exact absurd h (kx_no_0 (by decide))
  · rw [if_neg c] at h; exact ⟨h, by omega, by omega⟩
theorem kx_n4_0 {X : kx_X} {lo hi : Nat} : ∀ m s l, (kx_n4 X lo hi m s l).1 = 0 → l.1 = 0 ∧ ((kx_t3 X m s).2 = 0 → ∀ j, j < m → lo ≤ kx_N X (s.1 + j) ∧ kx_N X (s.1 + j) ≤ hi)
  | 0, _, _, h => ⟨h, fun _ j hj => absurd hj (Nat.not_lt_zero j)⟩
  | m + 1, s, l, h => by
    obtain ⟨a, b⟩ := kx_n4_0 m (kx_tk X 3 s) (kx_nu X lo hi s l) h
    obtain ⟨c, d⟩ := kx_nu_0 a
    refine ⟨c, fun q j hj => ?_⟩
    have q : (kx_t3 X m (kx_tk X 3 s)).2 = 0 := q
    have es : (kx_tk X 3 s).1 = s.1 + 1 := by rw [(kx_tk_0 (kx_t3_0 m _ q).1).2.2.2]
    by_cases j0 : j = 0
    · subst j0; exact d
    · have := b q (j - 1) (by omega)
      rw [es, show s.1 + 1 + (j - 1) = s.1 + j by omega] at this
      exact this
theorem kx_l3_0 {X : kx_X} {D : kx_D} {s : kx_S} (h : (kx_l3 X D s).1 = 0) : (kd_sl D).1 = 0 := by
  unfold kx_l3 at h
  by_cases c : kx_fd (kd_dn D) (kd_nd D) (kx_V X s.1) < kd_nd D ∨ kx_fd (kd_cn D) (kd_nc D) (kx_V X s.1) < kd_nc D
  · rw [if_pos c] at h; exact absurd h (kx_no_0 (by decide))
  · rw [if_neg c] at h; exact h
theorem kx_l4_0 {X : kx_X} {g : Nat → Int64} {n : Nat} {s : kx_S} {l : kx_sl} (h : (kx_l4 X g n s l).1 = 0) : l.1 = 0 ∧ kx_fd g n (kx_V X s.1) < n := by
  unfold kx_l4 at h
  by_cases c : kx_fd g n (kx_V X s.1) < n
  · rw [if_pos c] at h; exact ⟨h, c⟩
  · rw [if_neg c] at h; exact absurd h (kx_no_0 (by decide))
set_option maxHeartbeats 200000 in
theorem kM_en90 {X : kx_X} {sd N n f tok : Nat} {s : kx_S} {σ : kf_St} (hs : sd < 2) (h : kx_RM X s σ) (h19 : σ.1 77 19 = nI sd) (hR : σ.1 87 sd = nI n) (hn : n < 10) (hN : N < 11) (h20 : σ.1 77 20 = nI N) (ht : kx_ok X tok) : ∃ τ, f_X12_tellOne_90 (f + 1) 77 (nI tok) (nI 4) σ = some τ ∧ kx_RM X (kx_tk X 59 s) τ ∧ kx_fr (fun a b => kx_mT a b ∨ (a = 77 ∧ b = 20) ∨ (a = 86 ∧ b = N) ∨ (a = 87 ∧ b = sd)) (fun a b => a = 85 ∧ b = N) σ τ ∧ ((kx_tk X 59 s).2 = 0 → τ.1 87 sd = nI (n + 1) ∧ τ.1 77 20 = nI (N + 1) ∧ τ.1 86 N = nI (0 + n) ∧ (kx_K X tok = 2 → τ.2 85 N = kx_V X tok)) := by
  have t4 := ht.1
  obtain ⟨τ1, a1, a2, a3⟩ := kM_must (k := 59) h rfl (by decide) (by decide)
  have f2 := a2.1.2
  have e20 : τ1.1 77 20 = nI N := (a3.1 77 20 (by unfold kx_mT; omega)).trans h20
  have e19 : τ1.1 77 19 = nI sd := (a3.1 77 19 (by unfold kx_mT; omega)).trans h19
  have eR : τ1.1 87 sd = nI n := (a3.1 87 sd (by unfold kx_mT; omega)).trans hR
  have bn : ((0 : Int32) + nI n) = nI (0 + n) := nI_add 0 n
  have b0 : nI (0 + n) = nI n := by rw [Nat.zero_add]
  have run : ∀ z, (if (kx_tk X 59 s).2 = 0 then some (kf_wi (kf_wi (kf_wi (kf_wl τ1 85 N (τ1.2 83 tok)) 86 N (nI (0 + n))) 77 20 (nI (N + 1))) 87 sd (nI (n + 1))) else some τ1) = z → f_X12_tellOne_90 (f + 1) 77 (nI tok) (nI 4) σ = z := by
    intro z hz
    show f_X12_tellOne_90_s _ 77 (nI tok) (nI 4) σ = z
    unfold f_X12_tellOne_90_s f_X12_endsName
    simp only [kz_lt]
    rw [if_pos (show (4 : Int32) ≤ nI 4 by decide), h19, kr77_23, kl87, if_pos (kf_ixN (by omega) (by decide)), show (nI sd).toNatClampNeg = sd from nI_clamp (by omega), hR, show f_X12_must 77 4 σ = some τ1 from a1, Option.bind_some, a2.2.2.1, ← hz]
    by_cases q : (kx_tk X 59 s).2 = 0
    · rw [if_pos (show nI _ ≤ 0 by rw [q]; exact Int32.le_refl _), if_pos q, kr77_8, kl83, if_pos (kf_ixN (by omega) (by decide)), e20, kr77_21, kl85, if_pos (kf_ixN (by omega) (by decide)), nI_clamp (by omega), nI_clamp (by omega), kp_wl_1, e20, kr77_22, kl86, if_pos (kf_ixN (by omega) (by decide)), nI_clamp (by omega), kp_wi_row (by decide), kp_wl_1, e20, nI_1, Option.bind_some, kp_wi_ne (by omega), kp_wi_row (by decide), kp_wl_1, a2.2.2.1, if_pos (show nI _ = 0 by rw [q]; rfl), kp_wi_ne (by omega), kp_wi_row (by decide), kp_wl_1, e19, if_pos (kf_ixN (by omega) (by decide)), if_pos (kf_ixN (by omega) (by decide)), show (nI sd).toNatClampNeg = sd from nI_clamp (by omega), kp_wi_row (by decide), kp_wi_row (by decide), kp_wl_1, eR, nI_1]
      first
        | rw [bn]
        | rw [b0]
    · rw [if_neg (nI_nle (by omega) (by omega)), if_neg q, Option.bind_some, a2.2.2.1, if_neg (nI_ne0 (by omega) (by omega))]
  by_cases q : (kx_tk X 59 s).2 = 0
  · have cw : kx_fr (fun a b => (a = 77 ∧ b = 20) ∨ (a = 86 ∧ b = N) ∨ (a = 87 ∧ b = sd)) (fun a b => a = 85 ∧ b = N) τ1 (kf_wi (kf_wi (kf_wi (kf_wl τ1 85 N (τ1.2 83 tok)) 86 N (nI (0 + n))) 77 20 (nI (N + 1))) 87 sd (nI (n + 1))) := (((kx_fr.rf.wl ⟨rfl, rfl⟩).wi (Or.inr (Or.inl ⟨rfl, rfl⟩))).wi (Or.inl ⟨rfl, rfl⟩)).wi (Or.inr (Or.inr ⟨rfl, rfl⟩))
    refine ⟨_, run _ (if_pos q), a2.fr cw (fun a b _ _ q => by omega) (fun b q => by omega) ⟨by omega, by omega, by omega⟩, (a3.mono (fun _ _ q => Or.inl q) (fun _ _ q => q.elim)).tr (cw.mono (fun _ _ q => Or.inr q) (fun _ _ q => q)), fun _ => ⟨kp_wi_same _ _ _ _, (kp_wi_row (by decide) _).trans (kp_wi_same _ _ _ _), ?_, fun k2 => ?_⟩⟩
    · rw [kp_wi_row (by decide), kp_wi_row (by decide), kp_wi_same]
    · rw [kp_wi_2, kp_wi_2, kp_wi_2, kp_wl_same]
      exact (a2.2.1 tok ht).2.2.2 k2
  · exact ⟨τ1, run _ (if_neg q), a2, a3.mono (fun _ _ q => Or.inl q) (fun _ _ q => q.elim), fun z => absurd z q⟩
set_option maxHeartbeats 200000 in
theorem kM_en200 {X : kx_X} {sd N n f tok : Nat} {s : kx_S} {σ : kf_St} (hs : sd < 2) (h : kx_RM X s σ) (h19 : σ.1 77 19 = nI sd) (hR : σ.1 89 sd = nI n) (hn : n < 10) (hN : N < 11) (h20 : σ.1 77 20 = nI N) (ht : kx_ok X tok) : ∃ τ, f_X12_tellOne_200 (f + 1) 77 (nI tok) (nI 4) σ = some τ ∧ kx_RM X (kx_tk X 59 s) τ ∧ kx_fr (fun a b => kx_mT a b ∨ (a = 77 ∧ b = 20) ∨ (a = 86 ∧ b = N) ∨ (a = 89 ∧ b = sd)) (fun a b => a = 85 ∧ b = N) σ τ ∧ ((kx_tk X 59 s).2 = 0 → τ.1 89 sd = nI (n + 1) ∧ τ.1 77 20 = nI (N + 1) ∧ τ.1 86 N = nI (10 + n) ∧ (kx_K X tok = 2 → τ.2 85 N = kx_V X tok)) := by
  have t4 := ht.1
  obtain ⟨τ1, a1, a2, a3⟩ := kM_must (k := 59) h rfl (by decide) (by decide)
  have f2 := a2.1.2
  have e20 : τ1.1 77 20 = nI N := (a3.1 77 20 (by unfold kx_mT; omega)).trans h20
  have e19 : τ1.1 77 19 = nI sd := (a3.1 77 19 (by unfold kx_mT; omega)).trans h19
  have eR : τ1.1 89 sd = nI n := (a3.1 89 sd (by unfold kx_mT; omega)).trans hR
  have bn : ((10 : Int32) + nI n) = nI (10 + n) := nI_add 10 n
  have b0 : nI (0 + n) = nI n := by rw [Nat.zero_add]
  have run : ∀ z, (if (kx_tk X 59 s).2 = 0 then some (kf_wi (kf_wi (kf_wi (kf_wl τ1 85 N (τ1.2 83 tok)) 86 N (nI (10 + n))) 77 20 (nI (N + 1))) 89 sd (nI (n + 1))) else some τ1) = z → f_X12_tellOne_200 (f + 1) 77 (nI tok) (nI 4) σ = z := by
    intro z hz
    show f_X12_tellOne_200_s _ 77 (nI tok) (nI 4) σ = z
    unfold f_X12_tellOne_200_s f_X12_endsName
    simp only [kz_lt]
    rw [if_pos (show (4 : Int32) ≤ nI 4 by decide), h19, kr77_25, kl89, if_pos (kf_ixN (by omega) (by decide)), show (nI sd).toNatClampNeg = sd from nI_clamp (by omega), hR, show f_X12_must 77 4 σ = some τ1 from a1, Option.bind_some, a2.2.2.1, ← hz]
    by_cases q : (kx_tk X 59 s).2 = 0
    · rw [if_pos (show nI _ ≤ 0 by rw [q]; exact Int32.le_refl _), if_pos q, kr77_8, kl83, if_pos (kf_ixN (by omega) (by decide)), e20, kr77_21, kl85, if_pos (kf_ixN (by omega) (by decide)), nI_clamp (by omega), nI_clamp (by omega), kp_wl_1, e20, kr77_22, kl86, if_pos (kf_ixN (by omega) (by decide)), nI_clamp (by omega), kp_wi_row (by decide), kp_wl_1, e20, nI_1, Option.bind_some, kp_wi_ne (by omega), kp_wi_row (by decide), kp_wl_1, a2.2.2.1, if_pos (show nI _ = 0 by rw [q]; rfl), kp_wi_ne (by omega), kp_wi_row (by decide), kp_wl_1, e19, if_pos (kf_ixN (by omega) (by decide)), if_pos (kf_ixN (by omega) (by decide)), show (nI sd).toNatClampNeg = sd from nI_clamp (by omega), kp_wi_row (by decide), kp_wi_row (by decide), kp_wl_1, eR, nI_1]
      first
        | rw [bn]
        | rw [b0]
    · rw [if_neg (nI_nle (by omega) (by omega)), if_neg q, Option.bind_some, a2.2.2.1, if_neg (nI_ne0 (by omega) (by omega))]
  by_cases q : (kx_tk X 59 s).2 = 0
  · have cw : kx_fr (fun a b => (a = 77 ∧ b = 20) ∨ (a = 86 ∧ b = N) ∨ (a = 89 ∧ b = sd)) (fun a b => a = 85 ∧ b = N) τ1 (kf_wi (kf_wi (kf_wi (kf_wl τ1 85 N (τ1.2 83 tok)) 86 N (nI (10 + n))) 77 20 (nI (N + 1))) 89 sd (nI (n + 1))) := (((kx_fr.rf.wl ⟨rfl, rfl⟩).wi (Or.inr (Or.inl ⟨rfl, rfl⟩))).wi (Or.inl ⟨rfl, rfl⟩)).wi (Or.inr (Or.inr ⟨rfl, rfl⟩))
    refine ⟨_, run _ (if_pos q), a2.fr cw (fun a b _ _ q => by omega) (fun b q => by omega) ⟨by omega, by omega, by omega⟩, (a3.mono (fun _ _ q => Or.inl q) (fun _ _ q => q.elim)).tr (cw.mono (fun _ _ q => Or.inr q) (fun _ _ q => q)), fun _ => ⟨kp_wi_same _ _ _ _, (kp_wi_row (by decide) _).trans (kp_wi_same _ _ _ _), ?_, fun k2 => ?_⟩⟩
    · rw [kp_wi_row (by decide), kp_wi_row (by decide), kp_wi_same]
    · rw [kp_wi_2, kp_wi_2, kp_wi_2, kp_wl_same]
      exact (a2.2.1 tok ht).2.2.2 k2
  · exact ⟨τ1, run _ (if_neg q), a2, a3.mono (fun _ _ q => Or.inl q) (fun _ _ q => q.elim), fun z => absurd z q⟩
