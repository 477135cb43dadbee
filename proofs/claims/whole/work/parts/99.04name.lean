/-! ===== pure: the reference reads numbers and names ===== -/
def kx_MS (l : kx_sl) (σ : kf_St) : Prop := σ.1 77 15 = nI l.1 ∧ (l.1 ≠ 0 → σ.1 77 16 = l.2) ∧ l.1 ≤ 5
def kx_li (X : kx_X) (l : kx_sl) (t : Nat) : Prop := l.1 ≠ 0 → ∃ t0, t0 < t ∧ l.2 = nI (kx_P X t0)
theorem kx_li.le {X : kx_X} {l : kx_sl} {t t' : Nat} (h : kx_li X l t) (ht : t ≤ t') : kx_li X l t' := fun q => by
  obtain ⟨t0, a, b⟩ := h q
  exact ⟨t0, by omega, b⟩
theorem kx_no_li {X : kx_X} {l : kx_sl} {k t : Nat} (h : kx_li X l t) : kx_li X (kx_no X k t l) (t + 1) := by
  unfold kx_no
  by_cases c : l.1 = 0
  · rw [if_pos c]; exact fun _ => ⟨t, by omega, rfl⟩
  · rw [if_neg c]; exact h.le (by omega)
theorem kx_P_lt2 {X : kx_X} {t0 t : Nat} (h : t0 < t) (ho : kx_ok X t) : kx_P X t0 < kx_P X t := by
  have := kx_P_lt (X := X) (n := t0) (t - t0 - 1) (fun j hj => (ho.2 j (by omega)).1)
  rw [show t0 + 1 + (t - t0 - 1) = t by omega] at this
  exact this
def kx_wP (a b : Nat) : Prop := a = 77 ∧ (b = 15 ∨ b = 16)
def kx_nP (a b : Nat) : Prop := a = 77 ∧ (b = 11 ∨ b = 13 ∨ b = 14 ∨ b = 15 ∨ b = 16)
theorem kx_RM.w {X : kx_X} {s : kx_S} {σ τ : kf_St} (h : kx_RM X s σ) (c : kx_fr kx_wP kx_n0 σ τ) : kx_RM X s τ := h.fr c (fun a b _ _ q => by unfold kx_wP at q; omega) (fun b q => q) ⟨by unfold kx_wP; omega, by unfold kx_wP; omega, by unfold kx_wP; omega⟩
theorem kx_MS.m {l : kx_sl} {σ τ : kf_St} {P Q : Nat → Nat → Prop} (h : kx_MS l σ) (c : kx_fr P Q σ τ) (h0 : ¬ P 77 15 ∧ ¬ P 77 16) : kx_MS l τ := ⟨(c.1 77 15 h0.1).trans h.1, fun q => (c.1 77 16 h0.2).trans (h.2.1 q), h.2.2⟩
theorem kM_wrong {X : kx_X} {s : kx_S} {σ : kf_St} {k t : Nat} (hX : X.1 ≤ 2000) (h : kx_RM X s σ) (z0 : s.2 = 0) (ho : kx_ok X t) (hk : k ≤ 5) : ∃ τ, f_X12_wrong 77 (nI k) (nI t) σ = some τ ∧ kx_fr kx_wP kx_n0 σ τ ∧ (∀ l, kx_MS l σ → (l.1 ≠ 0 → ∃ t0, t0 ≤ t ∧ l.2 = nI (kx_P X t0) ∧ (t0 = t → l.1 ≤ k)) → kx_MS (kx_no X k t l) τ) := by
  have t4 := ho.1
  have pl := kx_P_le X t
  unfold f_X12_wrong f_X12_wrong_46
  simp only [kz_lt]
  rw [kr77_6, kl81, if_pos (kf_ixN (by omega) (by decide)), nI_clamp (by omega), (h.2.1 t ho).2.1, h.2.2.1, if_neg (show ¬ 0 < nI s.2 by rw [z0]; decide)]
  have cw : kx_fr kx_wP kx_n0 σ (kf_wi (kf_wi σ 77 15 (nI k)) 77 16 (nI (kx_P X t))) := (kx_fr.rf.wi (by unfold kx_wP; omega)).wi (by unfold kx_wP; omega)
  by_cases c : σ.1 77 15 = 0
  · rw [if_pos c]
    refine ⟨_, rfl, cw, fun l hl _ => ?_⟩
    have l0 : l.1 = 0 := by
      have := hl.2.2
      exact (nI_eq (b := 0) (by omega) (by decide)).mp (hl.1.symm.trans c)
    unfold kx_no
    rw [if_pos l0]
    exact ⟨(kp_wi_ne (by omega)).trans (kp_wi_same _ _ _ _), fun _ => kp_wi_same _ _ _ _, hk⟩
  · rw [if_neg c]
    by_cases c1 : σ.1 77 16 < nI (kx_P X t)
    · rw [if_pos c1]
      refine ⟨σ, rfl, kx_fr.rf, fun l hl _ => ?_⟩
      unfold kx_no
      rw [if_neg (fun z => c (by rw [hl.1, z]; rfl))]
      exact hl
    · rw [if_neg c1]
      have key : ∀ l, kx_MS l σ → (l.1 ≠ 0 → ∃ t0, t0 ≤ t ∧ l.2 = nI (kx_P X t0) ∧ (t0 = t → l.1 ≤ k)) → nI (kx_P X t) = σ.1 77 16 ∧ ¬ nI k < σ.1 77 15 := by
        intro l hl hi
        have l1 : l.1 ≠ 0 := fun z => c (by rw [hl.1, z]; rfl)
        obtain ⟨t0, a1, a2, a3⟩ := hi l1
        have e16 := hl.2.1 l1
        by_cases et : t0 = t
        · have := a3 et
          have l5 := hl.2.2
          rw [e16, a2, et, hl.1]
          exact ⟨rfl, nI_nlt this (by omega)⟩
        · have := kx_P_lt2 (show t0 < t by omega) ho
          exact absurd (by rw [e16, a2]; exact nI_lt this (by omega)) c1
      by_cases c2 : nI (kx_P X t) = σ.1 77 16
      · rw [if_pos c2]
        by_cases c3 : nI k < σ.1 77 15
        · rw [if_pos c3]
          exact ⟨_, rfl, cw, fun l hl hi => absurd c3 (key l hl hi).2⟩
        · rw [if_neg c3]
          refine ⟨σ, rfl, kx_fr.rf, fun l hl _ => ?_⟩
          unfold kx_no
          rw [if_neg (fun z => c (by rw [hl.1, z]; rfl))]
          exact hl
      · rw [if_neg c2]
        exact ⟨_, rfl, cw, fun l hl hi => absurd (key l hl hi).1 c2⟩
theorem kM_num {X : kx_X} {s : kx_S} {σ : kf_St} {lo hi : Nat} (hX : X.1 ≤ 2000) (h : kx_RM X s σ) (hl : lo < 10000 ∧ hi < 10000) : ∃ v τ, f_X12_bounded 77 (nI lo) (nI hi) σ = some (v, τ) ∧ kx_RM X (kx_tk X 3 s) τ ∧ kx_fr kx_nP kx_n0 σ τ ∧ ((kx_tk X 3 s).2 = 0 → v = nI (kx_N X s.1) ∧ ∀ l, kx_MS l σ → kx_li X l s.1 → kx_MS (kx_nu X lo hi s l) τ ∧ kx_li X (kx_nu X lo hi s l) (s.1 + 1)) := by
  have f2 := h.1.2
  have t4 := h.1.1.1
  have bad : ¬ (s.2 = 0 ∧ kx_K X s.1 = 3) → ∃ τ, f_X12_bounded_15 77 (nI lo) σ = some (nI lo, τ) ∧ kx_RM X (kx_tk X 3 s) τ ∧ kx_fr kx_nP kx_n0 σ τ ∧ (kx_tk X 3 s).2 ≠ 0 := by
    intro hb
    obtain ⟨τ, t1, t2, t3⟩ := kM_fail (k := 1) h (by decide)
    have et : kx_tk X 3 s = if s.2 = 0 then (s.1, 1) else s := by
      by_cases z : s.2 = 0
      · rw [if_pos z, kx_tk_3 z (fun q => hb ⟨z, q⟩)]
      · rw [if_neg z, kx_tk_f z]
    refine ⟨τ, ?_, by rw [et]; exact t2, t3.mono (fun a b q => by unfold kx_nP; omega) (fun _ _ q => q), fun q => hb ⟨(kx_tk_0 q).1, (kx_tk_0 q).2.1⟩⟩
    unfold f_X12_bounded_15
    rw [show f_X12_fail 77 1 σ = some τ from t1, Option.bind_some]
  unfold f_X12_bounded
  rw [h.2.2.1]
  by_cases z : s.2 = 0
  · rw [if_neg (show ¬ 0 < nI s.2 by rw [z]; decide)]
    by_cases c : kx_K X s.1 = 3
    · rw [show f_X12_is 77 2 σ = some (1, σ) from kM_isT (k := 3) h z c, Option.bind_some]
      dsimp only
      obtain ⟨n3, v3⟩ := kx_N3 c
      rw [if_neg (by decide), h.2.2.2.1 z, kr77_7, kl82, if_pos (kf_ixN (by omega) (by decide)), nI_clamp (by omega), (h.2.1 s.1 h.1.1).2.2.1 c, kz_lt]
      have g51 : ∀ τ, kx_RM X s τ → ∃ τ', f_X12_bounded_51 77 (nI (kx_N X s.1)) τ = some (nI (kx_N X s.1), τ') ∧ kx_RM X (kx_tk X 3 s) τ' ∧ kx_fr kx_mT kx_n0 τ τ' := by
        intro τ hτ
        obtain ⟨τ', a1, a2, a3⟩ := kM_gon hτ z (by omega)
        rw [c] at a2
        refine ⟨τ', ?_, a2, a3⟩
        unfold f_X12_bounded_51
        rw [a1, Option.bind_some]
      have g42 : ∃ τ', f_X12_bounded_42 77 (nI (kx_N X s.1)) σ = some (nI (kx_N X s.1), τ') ∧ kx_RM X (kx_tk X 3 s) τ' ∧ kx_fr kx_nP kx_n0 σ τ' ∧ (∀ l, kx_MS l σ → kx_li X l s.1 → kx_MS (kx_no X 5 s.1 l) τ') := by
        obtain ⟨τ1, w1, w2, w3⟩ := kM_wrong (k := 5) hX h z h.1.1 (by decide)
        obtain ⟨τ', a1, a2, a3⟩ := g51 τ1 (h.w w2)
        refine ⟨τ', ?_, a2, (w2.mono (fun a b q => by unfold kx_wP at q; unfold kx_nP; omega) (fun _ _ q => q)).tr (a3.mono (fun a b q => by unfold kx_mT at q; unfold kx_nP; omega) (fun _ _ q => q)), fun l hl hi => (w3 l hl (fun q => by
          obtain ⟨t0, x, y⟩ := hi q
          exact ⟨t0, by omega, y, fun e => by omega⟩)).m a3 ⟨by unfold kx_mT; omega, by unfold kx_mT; omega⟩⟩
        unfold f_X12_bounded_42
        rw [h.2.2.2.1 z, show f_X12_wrong 77 5 (nI s.1) σ = some τ1 from w1, Option.bind_some, a1]
      by_cases c1 : kx_N X s.1 < lo
      · rw [if_pos (nI_lt c1 (by omega))]
        obtain ⟨τ', a1, a2, a3, a4⟩ := g42
        refine ⟨_, τ', a1, a2, a3, fun _ => ⟨rfl, fun l hl hi => ?_⟩⟩
        unfold kx_nu
        rw [if_pos (Or.inl c1)]
        exact ⟨a4 l hl hi, kx_no_li hi⟩
      · rw [if_neg (nI_nlt (by omega) (by omega))]
        by_cases c2 : hi < kx_N X s.1
        · rw [if_neg (nI_ge c2 (by omega))]
          obtain ⟨τ', a1, a2, a3, a4⟩ := g42
          refine ⟨_, τ', a1, a2, a3, fun _ => ⟨rfl, fun l hl hi => ?_⟩⟩
          unfold kx_nu
          rw [if_pos (Or.inr c2)]
          exact ⟨a4 l hl hi, kx_no_li hi⟩
        · rw [if_pos (nI_le (by omega) (by omega))]
          obtain ⟨τ', a1, a2, a3⟩ := g51 σ h
          refine ⟨_, τ', a1, a2, a3.mono (fun a b q => by unfold kx_mT at q; unfold kx_nP; omega) (fun _ _ q => q), fun _ => ⟨rfl, fun l hl hi => ?_⟩⟩
          unfold kx_nu
          rw [if_neg (fun q => by rcases q with q | q; exact c1 q; exact c2 q)]
          exact ⟨hl.m a3 ⟨by unfold kx_mT; omega, by unfold kx_mT; omega⟩, hi.le (by omega)⟩
    · rw [show f_X12_is 77 2 σ = some (0, σ) from kM_isF (k := 3) h rfl (by decide) (fun _ => c), Option.bind_some]
      dsimp only
      rw [if_pos rfl]
      obtain ⟨τ, a1, a2, a3, a4⟩ := bad (fun q => c q.2)
      exact ⟨_, τ, a1, a2, a3, fun q => absurd q a4⟩
  · rw [if_pos (show 0 < nI s.2 from nI_lt (a := 0) (b := s.2) (by omega) (by omega))]
    obtain ⟨τ, a1, a2, a3, a4⟩ := bad (fun q => z q.1)
    exact ⟨_, τ, a1, a2, a3, fun q => absurd q a4⟩
/-! names: of one sort -/
def kx_so (σ : kf_St) (N base : Nat) (g : Nat → Int64) (n : Nat) : Prop := (∀ j, j < N → ∀ a, a < 10 → σ.1 86 j = nI (base + a) → a < n ∧ σ.2 85 j = g a) ∧ (∀ a, a < n → ∃ j, j < N ∧ σ.1 86 j = nI (base + a) ∧ σ.2 85 j = g a) ∧ (∀ i j a b, i < j → j < N → a < 10 → b < 10 → σ.1 86 i = nI (base + a) → σ.1 86 j = nI (base + b) → a < b)
def kx_NM (D : kx_D) (σ : kf_St) : Prop := σ.1 77 20 = nI (kd_nd D + kd_nc D) ∧ (∀ j, j < kd_nd D + kd_nc D → ∃ a, a < 20 ∧ σ.1 86 j = nI a) ∧ kx_so σ (kd_nd D + kd_nc D) 0 (kd_dn D) (kd_nd D) ∧ kx_so σ (kd_nd D + kd_nc D) 10 (kd_cn D) (kd_nc D)
theorem kx_NM.fr {D : kx_D} {P Q : Nat → Nat → Prop} {σ τ : kf_St} (h : kx_NM D σ) (c : kx_fr P Q σ τ) (h0 : ¬ P 77 20) (h6 : ∀ b, ¬ P 86 b) (h5 : ∀ b, ¬ Q 85 b) : kx_NM D τ := by
  have e6 : τ.1 86 = σ.1 86 := c.row h6
  have e5 : τ.2 85 = σ.2 85 := c.rowl h5
  unfold kx_NM kx_so at *
  rw [e6, e5, c.1 77 20 h0]
  exact h
theorem kM_kno {X : kx_X} {D : kx_D} {s : kx_S} {σ : kf_St} {base n : Nat} {g : Nat → Int64} (hX : X.1 ≤ 2000) (h : kx_RM X s σ) (hb : base = 0 ∨ base = 10) (hn : n ≤ 9) (hD : kd_nd D + kd_nc D ≤ 11) (h1 : σ.1 77 20 = nI (kd_nd D + kd_nc D)) (h2 : ∀ j, j < kd_nd D + kd_nc D → ∃ a, a < 20 ∧ σ.1 86 j = nI a) (h3 : kx_so σ (kd_nd D + kd_nc D) base g n) : ∃ v τ, f_X12_known 77 (nI base) σ = some (v, τ) ∧ kx_RM X (kx_tk X 2 s) τ ∧ kx_fr kx_nP kx_n0 σ τ ∧ ((kx_tk X 2 s).2 = 0 → (kx_fd g n (kx_V X s.1) < n → v = nI (kx_fd g n (kx_V X s.1))) ∧ ∀ l, kx_MS l σ → kx_li X l s.1 → kx_MS (kx_l4 X g n s l) τ ∧ kx_li X (kx_l4 X g n s l) (s.1 + 1)) := by
  obtain ⟨τ1, a1, a2, a3⟩ := kM_must (k := 2) h rfl (by decide) (by decide)
  have f2 := a2.1.2
  have a3' : kx_fr kx_nP kx_n0 σ τ1 := a3.mono (fun a b q => by unfold kx_mT at q; unfold kx_nP; omega) (fun _ _ q => q)
  unfold f_X12_known
  simp only [kz_lt]
  rw [show f_X12_must 77 1 σ = some τ1 from a1, Option.bind_some, a2.2.2.1]
  by_cases z : (kx_tk X 2 s).2 = 0
  · obtain ⟨z1, z2, z3, z4⟩ := kx_tk_0 z
    rw [if_pos (show nI _ ≤ 0 by rw [z]; exact Int32.le_refl _), h.2.2.2.1 z1]
    have e6 : τ1.1 86 = σ.1 86 := a3.row (fun b => by unfold kx_mT; omega)
    have e5 : τ1.2 85 = σ.2 85 := a3.rowl (fun b q => q)
    have e20 : τ1.1 77 20 = nI (kd_nd D + kd_nc D) := (a3.1 77 20 (by unfold kx_mT; omega)).trans h1
    have eV : τ1.2 83 s.1 = kx_V X s.1 := (a2.2.1 s.1 h.1.1).2.2.2 z2
    obtain ⟨p1, p2, p3⟩ := h3
    obtain ⟨τ2, w1, w2, w3⟩ := kM_wrong (k := 4) hX a2 z h.1.1 (by decide)
    have main := kp_run (n := kd_nd D + kd_nc D) (fun j f => (∀ i, i < j → ∀ a, a < 10 → σ.1 86 i = nI (base + a) → ¬ σ.2 85 i = kx_V X s.1) → f_X12_known_21 f 77 (nI base) (nI s.1) (nI j) τ1 = some (if kx_fd g n (kx_V X s.1) < n then (nI (kx_fd g n (kx_V X s.1)), τ1) else (-1, τ2))) (by omega) (fun f => ?_) (fun j hj f ih => ?_)
    · have run := main (fun i hi => absurd hi (Nat.not_lt_zero i))
      by_cases c : kx_fd g n (kx_V X s.1) < n
      · rw [if_pos c] at run
        refine ⟨_, τ1, run, a2, a3', fun _ => ⟨fun _ => rfl, fun l hl hi => ?_⟩⟩
        unfold kx_l4
        rw [if_pos c]
        exact ⟨hl.m a3 ⟨by unfold kx_mT; omega, by unfold kx_mT; omega⟩, hi.le (by omega)⟩
      · rw [if_neg c] at run
        refine ⟨_, τ2, run, a2.w w2, a3'.tr (w2.mono (fun a b q => by unfold kx_wP at q; unfold kx_nP; omega) (fun _ _ q => q)), fun _ => ⟨fun q => absurd q c, fun l hl hi => ?_⟩⟩
        unfold kx_l4
        rw [if_neg c]
        exact ⟨w3 l (hl.m a3 ⟨by unfold kx_mT; omega, by unfold kx_mT; omega⟩) (fun q => by
          obtain ⟨t0, x, y⟩ := hi q
          exact ⟨t0, by omega, y, fun e => by omega⟩), kx_no_li hi⟩
    · intro hno
      show f_X12_known_21_s _ 77 (nI base) (nI s.1) (nI _) τ1 = _
      unfold f_X12_known_21_s
      rw [e20, if_pos (nI_le (Nat.le_refl _) (by omega)), show f_X12_wrong 77 4 (nI s.1) τ1 = some τ2 from w1, Option.bind_some, if_neg (fun c => ?_)]
      obtain ⟨j, j1, j2, j3⟩ := p2 _ c
      exact hno j j1 _ (by omega) j2 (j3.trans (kx_fd_lt c))
    · intro hno
      obtain ⟨cc, c1, c2⟩ := h2 j hj
      have t4 := h.1.1.1
      show f_X12_known_21_s _ 77 (nI base) (nI s.1) (nI j) τ1 = _
      unfold f_X12_known_21_s f_X12_known_77
      simp only [kz_lt]
      rw [e20, if_neg (nI_ge hj (by omega)), kr77_21, kl85, if_pos (kf_ixN (by omega) (by decide)), kr77_8, kl83, if_pos (kf_ixN (by omega) (by decide)), nI_clamp (by omega), nI_clamp (by omega), e5, eV, kr77_22, kl86, if_pos (kf_ixN (by omega) (by decide)), e6, c2, nI_1]
      have b10 : nI base + 10 = nI (base + 10) := nI_add base 10
      have step : (¬ σ.2 85 j = kx_V X s.1 ∨ cc < base ∨ base + 10 ≤ cc) → f_X12_known_21 f 77 (nI base) (nI s.1) (nI (j + 1)) τ1 = some (if kx_fd g n (kx_V X s.1) < n then (nI (kx_fd g n (kx_V X s.1)), τ1) else (-1, τ2)) := by
        intro hc
        refine ih (fun i hi a ha hia => ?_)
        by_cases e : i = j
        · subst e
          have : cc = base + a := (nI_eq (by omega) (by omega)).mp (c2.symm.trans hia)
          rcases hc with q | q
          · exact q
          · omega
        · exact hno i (by omega) a ha hia
      by_cases m : σ.2 85 j = kx_V X s.1
      · rw [if_pos ((lg_cmp_eq _ _).mpr m)]
        by_cases m1 : cc < base
        · rw [if_pos (nI_lt m1 (by omega))]
          exact step (Or.inr (Or.inl m1))
        · rw [if_neg (nI_nlt (by omega) (by omega)), if_pos (kf_ixN (by omega) (by decide)), b10]
          by_cases m2 : base + 10 ≤ cc
          · rw [if_pos (nI_le m2 (by omega))]
            exact step (Or.inr (Or.inr m2))
          · rw [if_neg (nI_ge (by omega) (by omega)), if_pos (kf_ixN (by omega) (by decide)), pk_sub (by omega)]
            have ea : σ.1 86 j = nI (base + (cc - base)) := by rw [c2, show base + (cc - base) = cc by omega]
            obtain ⟨q1, q2⟩ := p1 j hj (cc - base) (by omega) ea
            have gv : g (cc - base) = kx_V X s.1 := q2.symm.trans m
            have le : kx_fd g n (kx_V X s.1) ≤ cc - base := by
              by_cases q : kx_fd g n (kx_V X s.1) ≤ cc - base
              · exact q
              · exact absurd gv (kx_fd_min (n := n) (by omega))
            have lt : kx_fd g n (kx_V X s.1) < n := by omega
            have ge : cc - base ≤ kx_fd g n (kx_V X s.1) := by
              by_cases q : cc - base ≤ kx_fd g n (kx_V X s.1)
              · exact q
              · obtain ⟨i, i1, i2, i3⟩ := p2 _ lt
                have iv := i3.trans (kx_fd_lt lt)
                by_cases o : i < j
                · exact absurd iv (hno i o _ (by omega) i2)
                · by_cases e : i = j
                  · subst e
                    have := (nI_eq (by omega) (by omega)).mp (ea.symm.trans i2)
                    omega
                  · have := p3 j i _ _ (by omega) i1 (show cc - base < 10 by omega) (show kx_fd g n (kx_V X s.1) < 10 by omega) ea i2
                    omega
            rw [if_pos lt, show kx_fd g n (kx_V X s.1) = cc - base by omega]
      · rw [if_neg (fun q => m ((lg_cmp_eq _ _).mp q))]
        exact step (Or.inl m)
  · rw [if_neg (nI_nle (by omega) (by omega))]
    exact ⟨_, τ1, rfl, a2, a3', fun q => absurd q z⟩
