/-! ===== pure: a street begins (first side) ===== -/
theorem kC_beg1 {d : Nat} {σ : kf_St} (hd : d < 6) : ∃ τ, f_X1_begin (46 + 2 * d) 10 (nI d) σ = some τ ∧ kx_fr (fun a _ => a = 46 + 2 * d ∨ a = 46 + 2 * d + 1) kx_n0 σ τ ∧ (∀ p, p < 4 → τ.1 (46 + 2 * d + 1) p = σ.1 10 (4 * d + p)) ∧ (∀ k, 1 ≤ k → k ≤ 5 → τ.1 (46 + 2 * d) k = 0) := by
  have rf : kf_rf (46 + 2 * d) 0 = 46 + 2 * d + 1 := kz_rfK hd
  have ln : kf_ln (46 + 2 * d + 1) = 4 := kz_lnK hd
  unfold f_X1_begin
  have main := kp_run (n := 4) (fun j f => ∀ τ, kx_fr (fun a _ => a = 46 + 2 * d ∨ a = 46 + 2 * d + 1) kx_n0 σ τ → (∀ p, p < j → τ.1 (46 + 2 * d + 1) p = σ.1 10 (4 * d + p)) → ∃ τ', f_X1_begin_2 f (46 + 2 * d) 10 (nI d) (nI j) τ = some τ' ∧ kx_fr (fun a _ => a = 46 + 2 * d ∨ a = 46 + 2 * d + 1) kx_n0 σ τ' ∧ (∀ p, p < 4 → τ'.1 (46 + 2 * d + 1) p = σ.1 10 (4 * d + p)) ∧ (∀ k, 1 ≤ k → k ≤ 5 → τ'.1 (46 + 2 * d) k = 0)) (by decide) (fun f τ c hk => ?_) (fun j hj f ih τ c hk => ?_)
  · exact main σ kx_fr.rf (fun p hp => absurd hp (Nat.not_lt_zero p))
  · refine ⟨kf_wi (kf_wi (kf_wi (kf_wi (kf_wi τ (46 + 2 * d) 1 0) (46 + 2 * d) 2 0) (46 + 2 * d) 3 0) (46 + 2 * d) 4 0) (46 + 2 * d) 5 0, ?_, ((((c.wi (Or.inl rfl)).wi (Or.inl rfl)).wi (Or.inl rfl)).wi (Or.inl rfl)).wi (Or.inl rfl), fun p hp => ?_, fun k h1 h2 => ?_⟩
    · show f_X1_begin_2_s _ (46 + 2 * d) 10 (nI d) (nI 4) τ = _
      unfold f_X1_begin_2_s
      simp only [kz_lt]
      rw [if_pos (by decide)]
    · rw [kp_wi_row (by omega), kp_wi_row (by omega), kp_wi_row (by omega), kp_wi_row (by omega), kp_wi_row (by omega)]
      exact hk p hp
    · have : k = 1 ∨ k = 2 ∨ k = 3 ∨ k = 4 ∨ k = 5 := by omega
      rcases this with rfl | rfl | rfl | rfl | rfl
      · rw [kp_wi_ne (by omega), kp_wi_ne (by omega), kp_wi_ne (by omega), kp_wi_ne (by omega), kp_wi_same]
      · rw [kp_wi_ne (by omega), kp_wi_ne (by omega), kp_wi_ne (by omega), kp_wi_same]
      · rw [kp_wi_ne (by omega), kp_wi_ne (by omega), kp_wi_same]
      · rw [kp_wi_ne (by omega), kp_wi_same]
      · rw [kp_wi_same]
  · obtain ⟨τ', r1, r2⟩ := ih (kf_wi τ (46 + 2 * d + 1) j (σ.1 10 (4 * d + j))) (c.wi (Or.inr rfl)) (fun p hp => by
      by_cases e : p = j
      · rw [e, kp_wi_same]
      · rw [kp_wi_ne (by omega)]; exact hk p (by omega))
    refine ⟨τ', ?_, r2⟩
    show f_X1_begin_2_s _ (46 + 2 * d) 10 (nI d) (nI j) τ = _
    unfold f_X1_begin_2_s f_X1_begin_39
    simp only [kz_lt]
    rw [if_neg (show ¬ (4 : Int32) ≤ nI j from nI_ge (b := 4) (by omega) (by decide)), kp_n4, if_neg (nI_pos (by omega)), kl10, if_neg (nI_ge (by omega) (by decide)), if_pos (kf_ixN (by omega) (by decide)), rf, ln, if_pos (kf_ixN hj (by decide)), nI_clamp (by omega), nI_clamp (by omega), c.1 10 _ (by omega), nI_1]
    exact r1
theorem kx_shl : ∀ n, n ≤ 10 → ((1 : Int32) <<< (nI n &&& 31)) - 1 = nI (2 ^ n - 1) := by decide +kernel
theorem kC_beg {nr : Nat} {σ : kf_St} (hn : nr ≤ 10) (h : σ.1 7 2 = nI nr) : ∃ τ, f_X7_begin 44 7 σ = some τ ∧ kx_fr (fun a _ => a = 44 ∨ (46 ≤ a ∧ a ≤ 58)) kx_n0 σ τ ∧ (∀ d, d < 6 → (∀ p, p < 4 → τ.1 (46 + 2 * d + 1) p = σ.1 10 (4 * d + p)) ∧ (∀ k, 1 ≤ k → k ≤ 5 → τ.1 (46 + 2 * d) k = 0)) ∧ (∀ c, c < 5 → τ.1 58 c = 0) ∧ τ.1 44 2 = nI (2 ^ nr - 1) ∧ τ.1 44 3 = 0 := by
  have m30 : ∀ τ0, kx_fr (fun a _ => a = 44 ∨ (46 ≤ a ∧ a ≤ 58)) kx_n0 σ τ0 → ∃ τ, f_X7_begin_30 kf_F 44 7 0 τ0 = some τ ∧ kx_fr (fun a _ => a = 44 ∨ a = 58) kx_n0 τ0 τ ∧ (∀ c, c < 5 → τ.1 58 c = 0) ∧ τ.1 44 2 = nI (2 ^ nr - 1) ∧ τ.1 44 3 = 0 := by
    intro τ0 c0
    have main := kp_run (n := 5) (fun j f => ∀ τ, kx_fr (fun a _ => a = 44 ∨ a = 58) kx_n0 τ0 τ → (∀ p, p < j → τ.1 58 p = 0) → ∃ τ', f_X7_begin_30 f 44 7 (nI j) τ = some τ' ∧ kx_fr (fun a _ => a = 44 ∨ a = 58) kx_n0 τ0 τ' ∧ (∀ c, c < 5 → τ'.1 58 c = 0) ∧ τ'.1 44 2 = nI (2 ^ nr - 1) ∧ τ'.1 44 3 = 0) (by decide) (fun f τ c hk => ?_) (fun j hj f ih τ c hk => ?_)
    · exact main τ0 kx_fr.rf (fun p hp => absurd hp (Nat.not_lt_zero p))
    · refine ⟨kf_wi (kf_wi τ 44 2 (nI (2 ^ nr - 1))) 44 3 0, ?_, (c.wi (Or.inl rfl)).wi (Or.inl rfl), fun p hp => ?_, (kp_wi_ne (by omega)).trans (kp_wi_same _ _ _ _), kp_wi_same _ _ _ _⟩
      · show f_X7_begin_30_s _ 44 7 (nI 5) τ = _
        unfold f_X7_begin_30_s
        simp only [kz_lt]
        rw [if_pos (by decide), c.1 7 2 (by omega), c0.1 7 2 (by omega), h, kx_shl nr hn]
      · rw [kp_wi_row (by decide), kp_wi_row (by decide)]; exact hk p hp
    · obtain ⟨τ', r1, r2⟩ := ih (kf_wi τ 58 j 0) (c.wi (Or.inr rfl)) (fun p hp => by
        by_cases e : p = j
        · rw [e, kp_wi_same]
        · rw [kp_wi_ne (by omega)]; exact hk p (by omega))
      refine ⟨τ', ?_, r2⟩
      show f_X7_begin_30_s _ 44 7 (nI j) τ = _
      unfold f_X7_begin_30_s
      simp only [kz_lt]
      rw [if_neg (show ¬ (5 : Int32) ≤ nI j from nI_ge (b := 5) (by omega) (by decide)), kr44_1, kl58, if_pos (kf_ixN (by omega) (by decide)), nI_clamp (by omega), nI_1]
      exact r1
  unfold f_X7_begin
  have main := kp_run (n := 6) (fun j f => ∀ τ, kx_fr (fun a _ => a = 44 ∨ (46 ≤ a ∧ a ≤ 58)) kx_n0 σ τ → (∀ d, d < j → (∀ p, p < 4 → τ.1 (46 + 2 * d + 1) p = σ.1 10 (4 * d + p)) ∧ (∀ k, 1 ≤ k → k ≤ 5 → τ.1 (46 + 2 * d) k = 0)) → ∃ τ', f_X7_begin_2 f 44 7 (nI j) τ = some τ' ∧ kx_fr (fun a _ => a = 44 ∨ (46 ≤ a ∧ a ≤ 58)) kx_n0 σ τ' ∧ (∀ d, d < 6 → (∀ p, p < 4 → τ'.1 (46 + 2 * d + 1) p = σ.1 10 (4 * d + p)) ∧ (∀ k, 1 ≤ k → k ≤ 5 → τ'.1 (46 + 2 * d) k = 0)) ∧ (∀ c, c < 5 → τ'.1 58 c = 0) ∧ τ'.1 44 2 = nI (2 ^ nr - 1) ∧ τ'.1 44 3 = 0) (by decide) (fun f τ c hk => ?_) (fun j hj f ih τ c hk => ?_)
  · exact main σ kx_fr.rf (fun p hp => absurd hp (Nat.not_lt_zero p))
  · obtain ⟨τ', r1, r2, r3⟩ := m30 τ c
    refine ⟨τ', ?_, c.tr (r2.mono (fun a b q => by omega) (fun _ _ q => q)), fun d hd => ⟨fun p hp => (r2.1 _ _ (by omega)).trans ((hk d hd).1 p hp), fun k h1 h2 => (r2.1 _ _ (by omega)).trans ((hk d hd).2 k h1 h2)⟩, r3⟩
    show f_X7_begin_2_s _ 44 7 (nI 6) τ = _
    unfold f_X7_begin_2_s
    rw [if_pos (by decide), r1]
  · obtain ⟨τ1, b1, b2, b3, b4⟩ := kC_beg1 (d := j) (σ := τ) hj
    obtain ⟨τ', r1, r2⟩ := ih τ1 (c.tr (b2.mono (fun a b q => by omega) (fun _ _ q => q))) (fun d hd => by
      by_cases e : d = j
      · subst e
        exact ⟨fun p hp => (b3 p hp).trans (c.1 10 _ (by omega)), b4⟩
      · obtain ⟨x, y⟩ := hk d (by omega)
        exact ⟨fun p hp => (b2.1 _ _ (by omega)).trans (x p hp), fun k h1 h2 => (b2.1 _ _ (by omega)).trans (y k h1 h2)⟩)
    refine ⟨τ', ?_, r2⟩
    show f_X7_begin_2_s _ 44 7 (nI j) τ = _
    unfold f_X7_begin_2_s
    simp only [kz_lt]
    rw [if_neg (show ¬ (6 : Int32) ≤ nI j from nI_ge (b := 6) (by omega) (by decide)), kr44_0, kl45, if_pos (kf_ixN (by omega) (by decide)), nI_clamp (by omega), kz_rf45 hj, kr7_8, b1, Option.bind_some, nI_1]
    exact r1
