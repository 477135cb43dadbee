/-! ===== pure: the reader of the second side, whole ===== -/
theorem kM_rw {X : kx_X} {S : kx_sf} {sd : Nat} (hX : X.1 ≤ 2000) (hs : sd < 2) (hS : kx_gd X 15 S) (hM : kx_xM X sd S) : ∀ g s D σ f, 401 ≤ g + s.1 → g < f → kx_RM X s σ → (s.2 = 0 → kx_DM X D sd s σ ∧ kx_Di D) → ∃ τ, f_X12_read_112 f 77 σ = f_X12_read_134 77 τ ∧ kx_RM X (kx_rw X S g s D).1 τ ∧ ((kx_rw X S g s D).1.2 = 0 → kx_DM X (kx_rw X S g s D).2 sd (kx_rw X S g s D).1 τ ∧ kx_Di (kx_rw X S g s D).2) ∧ kx_fr (kx_tF sd) kx_tG σ τ := by
  intro g
  induction g with
  | zero =>
    intro s D σ f h1 h2 h hD
    have := h.1.1.1
    omega
  | succ g ih =>
    intro s D σ f h1 h2 h hD
    obtain ⟨f, rfl⟩ := kp_fuel (show 0 < f by omega)
    have f2 := h.1.2
    rw [show kx_rw X S (g + 1) s D = if s.2 = 0 ∧ ¬ kx_K X s.1 = 0 then kx_rw X S g (kx_te X S s D).1 (kx_te X S s D).2 else (s, D) from rfl]
    have start : ∀ z, (if s.2 = 0 ∧ ¬ kx_K X s.1 = 0 then (f_X12_tellOne 77 σ).bind fun q => f_X12_read_112 f 77 q else f_X12_read_134 77 σ) = z → f_X12_read_112 (f + 1) 77 σ = z := by
      intro z hz
      show f_X12_read_112_s _ 77 σ = _
      unfold f_X12_read_112_s
      rw [h.2.2.1, ← hz]
      by_cases c0 : s.2 = 0
      · rw [if_pos (show nI s.2 = 0 by rw [c0]; rfl)]
        by_cases c1 : kx_K X s.1 = 0
        · rw [show f_X12_is 77 0 σ = some (1, σ) from kM_isT (k := 0) h c0 c1, Option.bind_some]
          dsimp only
          rw [if_neg (by decide), if_neg (fun q => q.2 c1)]
        · rw [show f_X12_is 77 0 σ = some (0, σ) from kM_isF (k := 0) h rfl (by decide) (fun _ => c1), Option.bind_some]
          dsimp only
          rw [if_pos rfl, if_pos ⟨c0, c1⟩]
      · rw [if_neg (nI_ne0 (by omega) (by omega)), if_neg (fun q => c0 q.1)]
    by_cases c : s.2 = 0 ∧ ¬ kx_K X s.1 = 0
    · rw [if_pos c]
      obtain ⟨d1, d2⟩ := hD c.1
      obtain ⟨τ1, t1, t2, t3, t4⟩ := kM_tell hX hs hS hM d2.1 c.1 h d1
      by_cases z : (kx_te X S s D).1.2 = 0
      · have lt := (kx_i_te hS h.1 d2 z).2
        obtain ⟨τ2, u1, u2, u3, u4⟩ := ih (kx_te X S s D).1 (kx_te X S s D).2 τ1 f (by omega) (by omega) t2 (fun q => ⟨t3 q, (kx_i_te hS h.1 d2 q).1⟩)
        refine ⟨τ2, start _ ?_, u2, u3, t4.tr u4⟩
        rw [if_pos c, t1, Option.bind_some, u1]
      · have e : ∀ gg, kx_rw X S gg (kx_te X S s D).1 (kx_te X S s D).2 = ((kx_te X S s D).1, (kx_te X S s D).2) := by
          intro gg
          cases gg with
          | zero => rfl
          | succ gg =>
            show (if (kx_te X S s D).1.2 = 0 ∧ ¬ kx_K X (kx_te X S s D).1.1 = 0 then _ else _) = _
            rw [if_neg (fun q => z q.1)]
        rw [e]
        have ft := t2.1.2
        refine ⟨τ1, start _ ?_, t2, fun q => absurd q z, t4⟩
        rw [if_pos c, t1, Option.bind_some]
        obtain ⟨f, rfl⟩ := kp_fuel (show 0 < f by omega)
        show f_X12_read_112_s _ 77 τ1 = _
        unfold f_X12_read_112_s
        rw [t2.2.2.1, if_neg (nI_ne0 (by omega) (by omega))]
    · rw [if_neg c]
      exact ⟨σ, start _ (if_neg c), h, hD, kx_fr.rf⟩
theorem kM_plain {sd : Nat} (σ : kf_St) (hs : sd < 2) : ∃ τ, f_X12_plain 77 (nI sd) σ = some τ ∧ kx_fr (fun a b => ((a = 87 ∨ a = 89 ∨ a = 91 ∨ a = 96 ∨ a = 97 ∨ a = 98) ∧ b = sd) ∨ ((a = 99 ∨ a = 100) ∧ 3 * sd ≤ b ∧ b < 3 * sd + 3)) kx_n0 σ τ ∧ (τ.1 87 sd = 0 ∧ τ.1 89 sd = 0 ∧ τ.1 91 sd = 0 ∧ τ.1 96 sd = 0 ∧ τ.1 97 sd = 40 ∧ τ.1 98 sd = 0) ∧ (∀ k, k < 3 → τ.1 99 (3 * sd + k) = 0 ∧ τ.1 100 (3 * sd + k) = 0) := by
  have c0 : kx_fr (fun a b => (a = 87 ∨ a = 89 ∨ a = 91 ∨ a = 96 ∨ a = 97 ∨ a = 98) ∧ b = sd) kx_n0 σ (kf_wi (kf_wi (kf_wi (kf_wi (kf_wi (kf_wi σ 87 sd 0) 89 sd 0) 91 sd 0) 96 sd 0) 97 sd 40) 98 sd 0) := (((((kx_fr.rf.wi ⟨by omega, rfl⟩).wi ⟨by omega, rfl⟩).wi ⟨by omega, rfl⟩).wi ⟨by omega, rfl⟩).wi ⟨by omega, rfl⟩).wi ⟨by omega, rfl⟩
  have v : (kf_wi (kf_wi (kf_wi (kf_wi (kf_wi (kf_wi σ 87 sd 0) 89 sd 0) 91 sd 0) 96 sd 0) 97 sd 40) 98 sd 0).1 87 sd = 0 ∧ (kf_wi (kf_wi (kf_wi (kf_wi (kf_wi (kf_wi σ 87 sd 0) 89 sd 0) 91 sd 0) 96 sd 0) 97 sd 40) 98 sd 0).1 89 sd = 0 ∧ (kf_wi (kf_wi (kf_wi (kf_wi (kf_wi (kf_wi σ 87 sd 0) 89 sd 0) 91 sd 0) 96 sd 0) 97 sd 40) 98 sd 0).1 91 sd = 0 ∧ (kf_wi (kf_wi (kf_wi (kf_wi (kf_wi (kf_wi σ 87 sd 0) 89 sd 0) 91 sd 0) 96 sd 0) 97 sd 40) 98 sd 0).1 96 sd = 0 ∧ (kf_wi (kf_wi (kf_wi (kf_wi (kf_wi (kf_wi σ 87 sd 0) 89 sd 0) 91 sd 0) 96 sd 0) 97 sd 40) 98 sd 0).1 97 sd = 40 ∧ (kf_wi (kf_wi (kf_wi (kf_wi (kf_wi (kf_wi σ 87 sd 0) 89 sd 0) 91 sd 0) 96 sd 0) 97 sd 40) 98 sd 0).1 98 sd = 0 := by
    refine ⟨?_, ?_, ?_, ?_, ?_, kp_wi_same _ _ _ _⟩
    · rw [kp_wi_row (by decide), kp_wi_row (by decide), kp_wi_row (by decide), kp_wi_row (by decide), kp_wi_row (by decide), kp_wi_same]
    · rw [kp_wi_row (by decide), kp_wi_row (by decide), kp_wi_row (by decide), kp_wi_row (by decide), kp_wi_same]
    · rw [kp_wi_row (by decide), kp_wi_row (by decide), kp_wi_row (by decide), kp_wi_same]
    · rw [kp_wi_row (by decide), kp_wi_row (by decide), kp_wi_same]
    · rw [kp_wi_row (by decide), kp_wi_same]
  have i2 : ∀ k, kf_ln k = 2 → kf_ix (nI sd) (kf_ln k) = true := fun k hk => by rw [hk]; exact kf_ixN hs (by decide)
  have run0 : f_X12_plain 77 (nI sd) σ = f_X12_plain_45 kf_F 77 (nI sd) 0 (kf_wi (kf_wi (kf_wi (kf_wi (kf_wi (kf_wi σ 87 sd 0) 89 sd 0) 91 sd 0) 96 sd 0) 97 sd 40) 98 sd 0) := by
    unfold f_X12_plain
    simp only [kz_lt]
    rw [kr77_23, kr77_25, kr77_27, kr77_32, kr77_33, kr77_34, if_pos (i2 87 kl87), if_pos (i2 89 kl89), if_pos (i2 91 kl91), if_pos (i2 96 kl96), if_pos (i2 97 kl97), if_pos (i2 98 kl98), show (nI sd).toNatClampNeg = sd from nI_clamp (by omega)]
  generalize hρ : kf_wi (kf_wi (kf_wi (kf_wi (kf_wi (kf_wi σ 87 sd 0) 89 sd 0) 91 sd 0) 96 sd 0) 97 sd 40) 98 sd 0 = ρ at c0 v run0
  have main := kp_run (n := 3) (fun j f => ∀ τ, kx_fr (fun a b => (a = 99 ∨ a = 100) ∧ 3 * sd ≤ b ∧ b < 3 * sd + 3) kx_n0 ρ τ → (∀ k, k < j → τ.1 99 (3 * sd + k) = 0 ∧ τ.1 100 (3 * sd + k) = 0) → ∃ τ', f_X12_plain_45 f 77 (nI sd) (nI j) τ = some τ' ∧ kx_fr (fun a b => (a = 99 ∨ a = 100) ∧ 3 * sd ≤ b ∧ b < 3 * sd + 3) kx_n0 ρ τ' ∧ ∀ k, k < 3 → τ'.1 99 (3 * sd + k) = 0 ∧ τ'.1 100 (3 * sd + k) = 0) (by decide) (fun f τ c hk => ?_) (fun j hj f ih τ c hk => ?_)
  · obtain ⟨τ, t1, t2, t3⟩ := main ρ kx_fr.rf (fun k hk => absurd hk (Nat.not_lt_zero k))
    have o : ∀ a, (a = 87 ∨ a = 89 ∨ a = 91 ∨ a = 96 ∨ a = 97 ∨ a = 98) → τ.1 a sd = ρ.1 a sd := fun a ha => t2.1 a sd (by omega)
    refine ⟨τ, run0.trans t1, (c0.mono (fun _ _ q => Or.inl q) (fun _ _ q => q)).tr (t2.mono (fun _ _ q => Or.inr q) (fun _ _ q => q)), ⟨(o 87 (by omega)).trans v.1, (o 89 (by omega)).trans v.2.1, (o 91 (by omega)).trans v.2.2.1, (o 96 (by omega)).trans v.2.2.2.1, (o 97 (by omega)).trans v.2.2.2.2.1, (o 98 (by omega)).trans v.2.2.2.2.2⟩, t3⟩
  · refine ⟨τ, ?_, c, hk⟩
    show f_X12_plain_45_s _ 77 (nI sd) (nI 3) τ = _
    unfold f_X12_plain_45_s
    rw [if_pos (by decide)]
  · have i3 : (3 : Int32) * nI sd + nI j = nI (3 * sd + j) := by rw [show (3 : Int32) = nI 3 from rfl, pk_mul, nI_add]
    obtain ⟨τ', r1, r2⟩ := ih (kf_wi (kf_wi τ 99 (3 * sd + j) 0) 100 (3 * sd + j) 0) ((c.wi ⟨by omega, by omega, by omega⟩).wi ⟨by omega, by omega, by omega⟩) (fun k hk2 => by
      by_cases e : k = j
      · subst e
        exact ⟨(kp_wi_row (by decide) _).trans (kp_wi_same _ _ _ _), kp_wi_same _ _ _ _⟩
      · obtain ⟨x, y⟩ := hk k (by omega)
        exact ⟨(kp_wi_row (by decide) _).trans ((kp_wi_ne (by omega)).trans x), (kp_wi_ne (by omega)).trans ((kp_wi_row (by decide) _).trans y)⟩)
    refine ⟨τ', ?_, r2⟩
    show f_X12_plain_45_s _ 77 (nI sd) (nI j) τ = _
    unfold f_X12_plain_45_s
    simp only [kz_lt]
    rw [if_neg (show ¬ (3 : Int32) ≤ nI j from nI_ge (b := 3) (by omega) (by decide)), i3, kr77_35, kr77_36, kl99, kl100, if_pos (kf_ixN (by omega) (by decide)), if_pos (kf_ixN (by omega) (by decide)), nI_clamp (by omega), nI_1]
    exact r1
theorem kM_copy {l : Nat} {σ : kf_St} (hl : l ≤ 2000) (h4 : σ.1 77 4 = nI l) : ∃ τ, f_X12_read_10 kf_F 77 0 σ = f_X12_read_10 1 77 (nI l) τ ∧ kx_fr (fun a _ => a = 79) kx_n0 σ τ ∧ ∀ i, i < l → τ.1 79 i = vp_nar .byte (σ.1 78 i) := by
  have main := kp_run (n := l) (fun j f => ∀ τ, kx_fr (fun a _ => a = 79) kx_n0 σ τ → (∀ i, i < j → τ.1 79 i = vp_nar .byte (σ.1 78 i)) → ∃ τ', f_X12_read_10 f 77 (nI j) τ = f_X12_read_10 1 77 (nI l) τ' ∧ kx_fr (fun a _ => a = 79) kx_n0 σ τ' ∧ ∀ i, i < l → τ'.1 79 i = vp_nar .byte (σ.1 78 i)) (by omega) (fun f τ c hk => ?_) (fun j hj f ih τ c hk => ?_)
  · exact main σ kx_fr.rf (fun k hk => absurd hk (Nat.not_lt_zero k))
  · refine ⟨τ, ?_, c, hk⟩
    show f_X12_read_10_s _ 77 (nI l) τ = f_X12_read_10_s _ 77 (nI l) τ
    unfold f_X12_read_10_s
    rw [c.1 77 4 (by omega), h4, if_pos (nI_le (Nat.le_refl _) (by omega)), if_pos (nI_le (Nat.le_refl _) (by omega))]
  · obtain ⟨τ', r1, r2⟩ := ih (kf_wi τ 79 j (vp_nar .byte (σ.1 78 j))) (c.wi (P := fun a _ => a = 79) rfl) (fun i hi => by
      by_cases e : i = j
      · rw [e, kp_wi_same]
      · rw [kp_wi_ne (by omega)]; exact hk i (by omega))
    refine ⟨τ', ?_, r2⟩
    show f_X12_read_10_s _ 77 (nI j) τ = _
    unfold f_X12_read_10_s
    simp only [kz_lt]
    rw [c.1 77 4 (by omega), h4, if_neg (nI_ge hj (by omega)), kr77_1, kl78, if_pos (kf_ixN (by omega) (by decide)), kr77_3, kl79, if_pos (kf_ixN (by omega) (by decide)), nI_clamp (by omega), c.1 78 j (by omega), nI_1]
    exact r1
