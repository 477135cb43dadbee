/-! ===== pure: the reference reads new names ===== -/
theorem kx_no_no (X : kx_X) (k t : Nat) (hk : k ≠ 0) (l : kx_sl) : kx_no X k t (kx_no X k t l) = kx_no X k t l := by
  unfold kx_no
  by_cases c : l.1 = 0
  · rw [if_pos c, if_neg (show ¬ k = 0 from hk)]
  · rw [if_neg c, if_neg c]
theorem kM_named {X : kx_X} {D : kx_D} {s : kx_S} {σ : kf_St} (hX : X.1 ≤ 2000) (h : kx_RM X s σ) (z0 : s.2 = 0) (hb : kx_Db D) (hN : kx_NM D σ) (hl : kx_MS (kd_sl D) σ) (hi : kx_li X (kd_sl D) s.1) : ∃ τ, f_X12_named 77 σ = some (nI s.1, τ) ∧ kx_RM X (kx_tk X 2 s) τ ∧ kx_fr kx_nP kx_n0 σ τ ∧ ((kx_tk X 2 s).2 = 0 → kx_MS (kx_l3 X D s) τ ∧ kx_li X (kx_l3 X D s) (s.1 + 1)) := by
  obtain ⟨τ1, a1, a2, a3⟩ := kM_must (k := 2) h rfl (by decide) (by decide)
  have f2 := a2.1.2
  have a3' : kx_fr kx_nP kx_n0 σ τ1 := a3.mono (fun a b q => by unfold kx_mT at q; unfold kx_nP; omega) (fun _ _ q => q)
  obtain ⟨b1, b2, -⟩ := hb
  have t4 := h.1.1.1
  unfold f_X12_named
  simp only [kz_lt]
  rw [show f_X12_must 77 1 σ = some τ1 from a1, Option.bind_some, h.2.2.2.1 z0]
  have e6 : τ1.1 86 = σ.1 86 := a3.row (fun b => by unfold kx_mT; omega)
  have e5 : τ1.2 85 = σ.2 85 := a3.rowl (fun b q => q)
  have e20 : τ1.1 77 20 = nI (kd_nd D + kd_nc D) := (a3.1 77 20 (by unfold kx_mT; omega)).trans hN.1
  by_cases z : (kx_tk X 2 s).2 = 0
  · obtain ⟨z1, z2, z3, z4⟩ := kx_tk_0 z
    have eV : τ1.2 83 s.1 = kx_V X s.1 := (a2.2.1 s.1 h.1.1).2.2.2 z2
    have l1 : kx_MS (kd_sl D) τ1 := hl.m a3 ⟨by unfold kx_mT; omega, by unfold kx_mT; omega⟩
    have main := kp_run (n := kd_nd D + kd_nc D) (fun j f => ∀ τ, kx_fr kx_wP kx_n0 τ1 τ → ((∃ i, i < j ∧ σ.2 85 i = kx_V X s.1) → kx_MS (kx_no X 3 s.1 (kd_sl D)) τ) → (¬ (∃ i, i < j ∧ σ.2 85 i = kx_V X s.1) → kx_MS (kd_sl D) τ) → ∃ τ', f_X12_named_12 f 77 (nI s.1) (nI j) τ = some (nI s.1, τ') ∧ kx_fr kx_wP kx_n0 τ1 τ' ∧ ((∃ i, i < kd_nd D + kd_nc D ∧ σ.2 85 i = kx_V X s.1) → kx_MS (kx_no X 3 s.1 (kd_sl D)) τ') ∧ (¬ (∃ i, i < kd_nd D + kd_nc D ∧ σ.2 85 i = kx_V X s.1) → kx_MS (kd_sl D) τ')) (by omega) (fun f τ c y n => ?_) (fun j hj f ih τ c y n => ?_)
    · obtain ⟨τ', m1, m2, m3, m4⟩ := main τ1 kx_fr.rf (fun q => by obtain ⟨i, q, -⟩ := q; exact absurd q (Nat.not_lt_zero i)) (fun _ => l1)
      refine ⟨τ', m1, a2.w m2, a3'.tr (m2.mono (fun a b q => by unfold kx_wP at q; unfold kx_nP; omega) (fun _ _ q => q)), fun _ => ?_⟩
      have iff : (∃ i, i < kd_nd D + kd_nc D ∧ σ.2 85 i = kx_V X s.1) ↔ (kx_fd (kd_dn D) (kd_nd D) (kx_V X s.1) < kd_nd D ∨ kx_fd (kd_cn D) (kd_nc D) (kx_V X s.1) < kd_nc D) := by
        constructor
        · rintro ⟨i, i1, i2⟩
          obtain ⟨a, a4, a5⟩ := hN.2.1 i i1
          by_cases q : a < 10
          · obtain ⟨x, y⟩ := hN.2.2.1.1 i i1 a q (by rw [Nat.zero_add]; exact a5)
            refine Or.inl ?_
            by_cases w : kx_fd (kd_dn D) (kd_nd D) (kx_V X s.1) ≤ a
            · omega
            · exact absurd (y.symm.trans i2) (kx_fd_min (n := kd_nd D) (by omega))
          · obtain ⟨x, y⟩ := hN.2.2.2.1 i i1 (a - 10) (by omega) (by rw [show 10 + (a - 10) = a by omega]; exact a5)
            refine Or.inr ?_
            by_cases w : kx_fd (kd_cn D) (kd_nc D) (kx_V X s.1) ≤ a - 10
            · omega
            · exact absurd (y.symm.trans i2) (kx_fd_min (n := kd_nc D) (by omega))
        · rintro (q | q)
          · obtain ⟨j, j1, j2, j3⟩ := hN.2.2.1.2.1 _ q
            exact ⟨j, j1, j3.trans (kx_fd_lt q)⟩
          · obtain ⟨j, j1, j2, j3⟩ := hN.2.2.2.2.1 _ q
            exact ⟨j, j1, j3.trans (kx_fd_lt q)⟩
      unfold kx_l3
      by_cases w : kx_fd (kd_dn D) (kd_nd D) (kx_V X s.1) < kd_nd D ∨ kx_fd (kd_cn D) (kd_nc D) (kx_V X s.1) < kd_nc D
      · rw [if_pos w]
        exact ⟨m3 (iff.mpr w), kx_no_li hi⟩
      · rw [if_neg w]
        exact ⟨m4 (fun q => w (iff.mp q)), hi.le (by omega)⟩
    · refine ⟨τ, ?_, c, y, n⟩
      show f_X12_named_12_s _ 77 (nI s.1) (nI _) τ = _
      unfold f_X12_named_12_s
      rw [c.1 77 20 (by unfold kx_wP; omega), e20, if_pos (nI_le (Nat.le_refl _) (by omega))]
    · have rmτ := a2.w c
      have go : ∀ z, (if σ.2 85 j = kx_V X s.1 then (f_X12_wrong 77 3 (nI s.1) τ).bind fun q => f_X12_named_12 f 77 (nI s.1) (nI (j + 1)) q else f_X12_named_12 f 77 (nI s.1) (nI (j + 1)) τ) = z → f_X12_named_12 (f + 1) 77 (nI s.1) (nI j) τ = z := by
        intro z2 hz
        show f_X12_named_12_s _ 77 (nI s.1) (nI j) τ = _
        unfold f_X12_named_12_s f_X12_named_49
        simp only [kz_lt]
        rw [c.1 77 20 (by unfold kx_wP; omega), e20, if_neg (nI_ge hj (by omega)), rmτ.2.2.1, if_pos (show nI _ = 0 by rw [z]; rfl), kr77_21, kl85, if_pos (kf_ixN (by omega) (by decide)), kr77_8, kl83, if_pos (kf_ixN (by omega) (by decide)), nI_clamp (by omega), nI_clamp (by omega), c.2 85 j (fun q => q), c.2 83 s.1 (fun q => q), e5, eV, nI_1, ← hz]
        by_cases m : σ.2 85 j = kx_V X s.1
        · rw [if_pos ((lg_cmp_eq _ _).mpr m), if_pos m]
        · rw [if_neg (fun q => m ((lg_cmp_eq _ _).mp q)), if_neg m]
      by_cases m : σ.2 85 j = kx_V X s.1
      · obtain ⟨τ2, w1, w2, w3⟩ := kM_wrong (k := 3) hX rmτ z h.1.1 (by decide)
        have ms2 : kx_MS (kx_no X 3 s.1 (kd_sl D)) τ2 := by
          by_cases ex : ∃ i, i < j ∧ σ.2 85 i = kx_V X s.1
          · have := w3 _ (y ex) (fun q => by
              unfold kx_no at q ⊢
              by_cases c0 : (kd_sl D).1 = 0
              · rw [if_pos c0] at q ⊢
                exact ⟨s.1, Nat.le_refl _, rfl, fun _ => Nat.le_refl _⟩
              · rw [if_neg c0] at q ⊢
                obtain ⟨t0, x, y⟩ := hi c0
                exact ⟨t0, by omega, y, fun e => by omega⟩)
            rw [kx_no_no X 3 s.1 (by decide)] at this
            exact this
          · exact w3 _ (n ex) (fun q => by
              obtain ⟨t0, x, y⟩ := hi q
              exact ⟨t0, by omega, y, fun e => by omega⟩)
        obtain ⟨τ', r1, r2⟩ := ih τ2 (c.tr w2) (fun _ => ms2) (fun q => absurd ⟨j, by omega, m⟩ q)
        refine ⟨τ', go _ ?_, r2⟩
        rw [if_pos m, show f_X12_wrong 77 3 (nI s.1) τ = some τ2 from w1, Option.bind_some, r1]
      · obtain ⟨τ', r1, r2⟩ := ih τ c (fun q => y (by
          obtain ⟨i, i1, i2⟩ := q
          by_cases e : i = j
          · exact absurd (e ▸ i2) m
          · exact ⟨i, by omega, i2⟩)) (fun q => n (fun p => q (by
          obtain ⟨i, i1, i2⟩ := p
          exact ⟨i, by omega, i2⟩)))
        refine ⟨τ', go _ ?_, r2⟩
        rw [if_neg m, r1]
  · refine ⟨τ1, ?_, a2, a3', fun q => absurd q z⟩
    show f_X12_named_12_s _ 77 (nI s.1) 0 τ1 = _
    unfold f_X12_named_12_s
    rw [e20, a2.2.2.1]
    by_cases c : nI (kd_nd D + kd_nc D) ≤ 0
    · rw [if_pos c]
    · rw [if_neg c, if_neg (nI_ne0 (by omega) (by omega))]
