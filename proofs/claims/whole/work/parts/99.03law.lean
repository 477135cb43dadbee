/-! ===== pure: the reference reads a law (3) ===== -/
theorem kM_129 {X : kx_X} {sd k c0 B q0 : Nat} {S : kx_sf} {s : kx_S} {cs : List kx_o} {σ : kf_St} (hs : sd < 2) (hk : k < 3) (hS : kx_gd X 15 S) (hM : kx_xM X sd S) (h : kx_RM X s σ) (hc : kx_CX sd s cs σ) (h0 : c0 ≤ 420 * sd + cs.length) (hB : σ.1 77 37 = nI B) (hB2 : 130 * sd ≤ B ∧ B < 130 * sd + 130) (h19 : σ.1 77 19 = nI sd) : ∃ τ, f_X12_tellLaw_129 77 (nI k) (nI q0) σ = some τ ∧ kx_RM X (kx_tk X 59 (S s).1) τ ∧ kx_fr (kx_lF sd k c0 B) kx_n0 σ τ ∧ kx_CX sd (kx_tk X 59 (S s).1) (cs ++ (S s).2) τ ∧ ((kx_tk X 59 (S s).1).2 = 0 → τ.1 77 37 = nI (B + 1) ∧ kx_me τ sd (420 * sd + (cs ++ (S s).2).length) B (S s).2 ∧ τ.1 99 (3 * sd + k) = nI q0 ∧ τ.1 100 (3 * sd + k) = nI (B + 1) ∧ s.2 = 0 ∧ s.1 + 2 ≤ (kx_tk X 59 (S s).1).1) := by
  have c1 : kx_fr (fun a b => a = 101 ∧ b = B) kx_n0 σ (kf_wi σ 101 B (vp_nar .boolean 0)) := kx_fr.rf.wi ⟨rfl, rfl⟩
  have c1' : kx_fr (kx_rP B) kx_n0 σ (kf_wi σ 101 B (vp_nar .boolean 0)) := c1.mono (fun a b q => by unfold kx_rP; omega) (fun _ _ q => q)
  obtain ⟨τ1, t1, t2, t3, t4, t5, t6⟩ := kM_term (c0 := c0) hS hM (h.rp c1') (hc.rp c1') h0 ((c1.1 77 37 (by omega)).trans hB) (by omega)
  obtain ⟨τ2, u1, u2, u3⟩ := kM_must (k := 59) t2 rfl (by decide) (by decide)
  have cu := t4.tk (X := X) (d := 59) u3
  have f2 := u2.1.2
  have FR1 : kx_fr (kx_lF sd k c0 B) kx_n0 σ τ2 := ((c1.mono (fun a b q => by unfold kx_lF; omega) (fun _ _ q => q)).tr (t3.mono (fun a b q => by unfold kx_lF; rcases q with q | q | q; exact Or.inl q; exact Or.inr (Or.inl q); exact Or.inr (Or.inr (Or.inl (by omega)))) (fun _ _ q => q))).tr (u3.mono (fun a b q => Or.inl (by unfold kx_mT at q; unfold kx_eP; omega)) (fun _ _ q => q))
  have run : ∀ z, (if τ2.1 77 13 ≤ 0 then some (kf_wi (kf_wi τ2 99 (3 * sd + k) (nI q0)) 100 (3 * sd + k) (τ2.1 77 37)) else some τ2) = z → f_X12_tellLaw_129 77 (nI k) (nI q0) σ = z := by
    intro z hz
    unfold f_X12_tellLaw_129
    simp only [kz_lt]
    rw [hB, kr77_38, kl101, if_pos (kf_ixN (by omega) (by decide)), nI_clamp (by omega), t1, Option.bind_some, show f_X12_must 77 4 τ1 = some τ2 from u1, Option.bind_some]
    have e19 : τ2.1 77 19 = nI sd := (FR1.1 77 19 (by unfold kx_lF kx_eP; omega)).trans h19
    have i3 : (3 : Int32) * nI sd + nI k = nI (3 * sd + k) := by rw [show (3 : Int32) = nI 3 from rfl, pk_mul, nI_add]
    rw [e19, i3, kr77_35, kl99, if_pos (kf_ixN (by omega) (by decide)), nI_clamp (by omega), kp_wi_row (by decide), e19, i3, kr77_36, kl100, if_pos (kf_ixN (by omega) (by decide)), nI_clamp (by omega), kp_wi_row (by decide)]
    exact hz
  by_cases z : (kx_tk X 59 (S s).1).2 = 0
  · have cw : kx_fr (fun a b => (a = 99 ∨ a = 100) ∧ b = 3 * sd + k) kx_n0 τ2 (kf_wi (kf_wi τ2 99 (3 * sd + k) (nI q0)) 100 (3 * sd + k) (τ2.1 77 37)) := (kx_fr.rf.wi ⟨Or.inl rfl, rfl⟩).wi ⟨Or.inr rfl, rfl⟩
    have b2 : τ2.1 77 37 = nI (B + 1) := (u3.1 77 37 (by unfold kx_mT; omega)).trans t5
    refine ⟨_, run _ (if_pos (by rw [u2.2.2.1, z]; exact Int32.le_refl _)), u2.fr cw (fun a b _ _ q => by omega) (fun b q => q) ⟨by omega, by omega, by omega⟩, FR1.tr (cw.mono (fun a b q => by unfold kx_lF; omega) (fun _ _ q => q)), cu.fr cw (fun a b q => by omega), fun _ => ?_⟩
    obtain ⟨y1, y2, y3, y4⟩ := kx_tk_0 z
    obtain ⟨x1, x2, x3⟩ := t6 y1
    obtain ⟨⟨n1, n2⟩, n3, n4⟩ := cu z
    have m := (kx_ma_app _ _ cs).mp n2
    refine ⟨(cw.1 77 37 (by omega)).trans b2, ⟨420 * sd + cs.length, by omega, by rw [List.length_append]; omega, ?_, ?_, ?_, ?_⟩, ?_, ?_, x1, ?_⟩
    · rw [cw.1 101 B (by omega), u3.1 101 B (by unfold kx_mT; omega), t3.1 101 B (by unfold kx_eP; omega), kp_wi_same]
      rfl
    · rw [cw.1 104 B (by omega), u3.1 104 B (by unfold kx_mT; omega), x2]
    · rw [cw.1 105 B (by omega), u3.1 105 B (by unfold kx_mT; omega), x3, List.length_append, Nat.add_assoc]
    · rw [cw.row (a := 106) (fun b => by omega), cw.row (a := 107) (fun b => by omega)]; exact m.2
    · rw [kp_wi_row (by decide), kp_wi_same]
    · rw [kp_wi_same, b2]
    · have l := ((kx_gd1 hS h.1).2.2 y1).2.1
      rw [y4]
      show s.1 + 2 ≤ (S s).1.1 + 1
      omega
  · refine ⟨τ2, run _ (if_neg (by rw [u2.2.2.1]; exact nI_nle (by omega) (by omega))), u2, FR1, cu, fun q => absurd q z⟩
theorem kx_lF_ab {sd k c0 b0 : Nat} {σ τ : kf_St} (c : kx_fr (kx_lF sd k c0 b0) kx_n0 σ τ) : kx_ab sd c0 b0 σ τ := ⟨fun r h1 h2 j h3 h4 => c.1 r j (by unfold kx_lF kx_eP; omega), fun r h1 j h3 h4 => c.1 r j (by unfold kx_lF kx_eP; omega)⟩
theorem kM_ll {X : kx_X} {sd k c0 q0 : Nat} {S : kx_sf} (hs : sd < 2) (hk : k < 3) (hS : kx_gd X 15 S) (hM : kx_xM X sd S) (hq0 : 130 * sd ≤ q0) : ∀ g i, 0 < g → i + g = 5 → ∀ f, g < f → ∀ s bs cs σ, kx_RM X s σ → kx_CX sd s cs σ → c0 ≤ 420 * sd + cs.length → σ.1 77 37 = nI (q0 + bs.length) → q0 + bs.length + g < 130 * sd + 130 → σ.1 77 19 = nI sd → (s.2 = 0 → kx_ms σ sd (420 * sd + cs.length) q0 bs) → ∃ τ cs', f_X12_tellLaw_12 f 77 (nI k) (nI q0) (nI i) σ = some τ ∧ kx_RM X (kx_tk X 59 (kx_ll X S g s bs).1) τ ∧ kx_fr (kx_lF sd k c0 q0) kx_n0 σ τ ∧ kx_CX sd (kx_tk X 59 (kx_ll X S g s bs).1) cs' τ ∧ c0 ≤ 420 * sd + cs'.length ∧ ((kx_tk X 59 (kx_ll X S g s bs).1).2 = 0 → τ.1 77 37 = nI (q0 + (kx_ll X S g s bs).2.1.length + 1) ∧ kx_MW k (kx_ll X S g s bs).2 sd (420 * sd + cs'.length) (q0 + (kx_ll X S g s bs).2.1.length + 1) τ ∧ s.1 + 4 * (kx_ll X S g s bs).2.1.length + 2 ≤ (kx_tk X 59 (kx_ll X S g s bs).1).1 + 4 * bs.length ∧ q0 + (kx_ll X S g s bs).2.1.length < 130 * sd + 130) := by
  have fin : ∀ s bs cs σ, kx_RM X s σ → kx_CX sd s cs σ → c0 ≤ 420 * sd + cs.length → σ.1 77 37 = nI (q0 + bs.length) → q0 + bs.length < 130 * sd + 130 → σ.1 77 19 = nI sd → (s.2 = 0 → kx_ms σ sd (420 * sd + cs.length) q0 bs) → ∃ τ cs', f_X12_tellLaw_129 77 (nI k) (nI q0) σ = some τ ∧ kx_RM X (kx_tk X 59 (kx_fi S s bs).1) τ ∧ kx_fr (kx_lF sd k c0 q0) kx_n0 σ τ ∧ kx_CX sd (kx_tk X 59 (kx_fi S s bs).1) cs' τ ∧ c0 ≤ 420 * sd + cs'.length ∧ ((kx_tk X 59 (kx_fi S s bs).1).2 = 0 → τ.1 77 37 = nI (q0 + (kx_fi S s bs).2.1.length + 1) ∧ kx_MW k (kx_fi S s bs).2 sd (420 * sd + cs'.length) (q0 + (kx_fi S s bs).2.1.length + 1) τ ∧ s.1 + 4 * (kx_fi S s bs).2.1.length + 2 ≤ (kx_tk X 59 (kx_fi S s bs).1).1 + 4 * bs.length ∧ q0 + (kx_fi S s bs).2.1.length < 130 * sd + 130) := by
    intro s bs cs σ h hc h0 hB hB2 h19 hms
    obtain ⟨τ, t1, t2, t3, t4, t5⟩ := kM_129 (c0 := 420 * sd + cs.length) (q0 := q0) hs hk hS hM h hc (Nat.le_refl _) hB ⟨by omega, hB2⟩ h19
    refine ⟨τ, cs ++ (S s).2, t1, t2, t3.mono (fun a b q => by unfold kx_lF kx_eP at *; omega) (fun _ _ q => q), t4, by rw [List.length_append]; omega, fun q => ?_⟩
    obtain ⟨a1, a2, a3, a4, a5, a6⟩ := t5 q
    refine ⟨a1, ⟨q0, hq0, by show q0 + bs.length < q0 + bs.length + 1; omega, a3, a4, ?_, a2⟩, ?_, hB2⟩
    · exact kx_ms_le (by rw [List.length_append]; omega) bs (kx_ms_ag (kx_lF_ab t3) bs hq0 (Nat.le_refl _) (hms a5))
    · have a6 : s.1 + 2 ≤ (kx_tk X 59 (kx_fi S s bs).1).1 := a6
      show s.1 + 4 * bs.length + 2 ≤ _
      omega
  intro g
  induction g with
  | zero =>
    intro i hg
    exact absurd hg (Nat.lt_irrefl 0)
  | succ g ih =>
    intro i hg hi f hf s bs cs σ h hc h0 hB hB2 h19 hms
    obtain ⟨f, rfl⟩ := kp_fuel (show 0 < f by omega)
    have f2 := h.1.2
    rw [show kx_ll X S (g + 1) s bs = if s.2 = 0 ∧ kx_K X s.1 = 265 then (if g = 0 then ((s.1, 2), (bs, [])) else kx_ll X S g (kx_i4 X S s) (bs ++ [kx_ib X S s])) else kx_fi S s bs from rfl]
    by_cases c0' : s.2 = 0
    · by_cases c1 : kx_K X s.1 = 265
      · rw [if_pos ⟨c0', c1⟩]
        by_cases c4 : g = 0
        · rw [if_pos c4]
          obtain ⟨τ1, t1, t2, t3⟩ := kM_fail (k := 2) h (by decide)
          rw [if_pos c0'] at t2
          have et : kx_tk X 59 (s.1, 2) = (s.1, 2) := kx_tk_f (by show ¬ 2 = 0; decide)
          refine ⟨τ1, cs, ?_, ?_, t3.mono (fun a b q => by unfold kx_lF kx_eP; omega) (fun _ _ q => q), ?_, h0, fun q => ?_⟩
          · show f_X12_tellLaw_12_s _ 77 (nI k) (nI q0) (nI i) σ = _
            unfold f_X12_tellLaw_12_s
            rw [h.2.2.1, if_pos (show nI s.2 = 0 by rw [c0']; rfl), show f_X12_is 77 29 σ = some (1, σ) from kM_isT (k := 265) h c0' c1, Option.bind_some]
            dsimp only
            rw [if_neg (by decide), if_pos (show nI i = 4 by rw [show i = 4 by omega]; rfl), show f_X12_fail 77 2 σ = some τ1 from t1, Option.bind_some]
            unfold f_X12_tellLaw_38
            rw [t2.2.2.1, if_neg (show ¬ nI 2 ≤ 0 by decide)]
          · show kx_RM X (kx_tk X 59 (s.1, 2)) τ1
            rw [et]; exact t2
          · show kx_CX sd (kx_tk X 59 (s.1, 2)) cs τ1
            rw [et]; exact fun q => absurd q (by show ¬ 2 = 0; decide)
          · have q : (kx_tk X 59 (s.1, 2)).2 = 0 := q
            rw [et] at q
            exact absurd q (by show ¬ 2 = 0; decide)
        · rw [if_neg c4]
          obtain ⟨τ1, cs1, t1, t2, t3, t4, t5, t6, t7, t8⟩ := kM_38 (c0 := 420 * sd + cs.length) (i := i) hs hS hM (f_X12_tellLaw_12 f) (nI k) (nI q0) h c0' c1 hc (Nat.le_refl _) hB (by omega)
          have t3' : kx_fr (kx_lF sd k (420 * sd + cs.length) (q0 + bs.length)) kx_n0 σ τ1 := t3.mono (fun a b q => by unfold kx_lF kx_eP at *; omega) (fun _ _ q => q)
          obtain ⟨τ2, cs2, u1, u2, u3, u4, u5, u6⟩ := ih (i + 1) (by omega) (by omega) f (by omega) (kx_i4 X S s) (bs ++ [kx_ib X S s]) cs1 τ1 t2 t4 (by omega) (by rw [t5, List.length_append]; rfl) (by rw [List.length_append]; show q0 + (bs.length + 1) + g < _; omega) ((t3'.1 77 19 (by unfold kx_lF kx_eP; omega)).trans h19) (fun q => by
            refine (kx_ms_s τ1 sd _ bs).mpr ⟨?_, (t8 q).1⟩
            exact kx_ms_le (by omega) bs (kx_ms_ag (kx_lF_ab t3') bs hq0 (Nat.le_refl _) (hms c0')))
          refine ⟨τ2, cs2, ?_, u2, (t3'.mono (fun a b q => by unfold kx_lF kx_eP at *; omega) (fun _ _ q => q)).tr u3, u4, u5, fun q => ?_⟩
          · show f_X12_tellLaw_12_s _ 77 (nI k) (nI q0) (nI i) σ = _
            unfold f_X12_tellLaw_12_s
            rw [h.2.2.1, if_pos (show nI s.2 = 0 by rw [c0']; rfl), show f_X12_is 77 29 σ = some (1, σ) from kM_isT (k := 265) h c0' c1, Option.bind_some]
            dsimp only
            rw [if_neg (by decide), if_neg (show ¬ nI i = 4 from fun z => absurd ((nI_eq (b := 4) (by omega) (by decide)).mp z) (by omega)), t1, u1]
          · obtain ⟨v1, v2, v3, v4⟩ := u6 q
            have q4 : (kx_i4 X S s).2 = 0 := by
              by_cases z : (kx_i4 X S s).2 = 0
              · exact z
              · exfalso
                have L := (kx_ll_ok hS g (kx_i4 X S s) (bs ++ [kx_ib X S s]) t2.1 (fun w => absurd w z)).2 (kx_tk_0 q).1
                exact z L.1
            have l7 := (t8 q4).2
            rw [List.length_append] at v3
            refine ⟨v1, v2, ?_, v4⟩
            have v3 : (kx_i4 X S s).1 + 4 * (kx_ll X S g (kx_i4 X S s) (bs ++ [kx_ib X S s])).2.1.length + 2 ≤ (kx_tk X 59 (kx_ll X S g (kx_i4 X S s) (bs ++ [kx_ib X S s])).1).1 + 4 * (bs.length + 1) := v3
            omega
      · rw [if_neg (fun q => c1 q.2)]
        obtain ⟨τ, cs', m1, m2⟩ := fin s bs cs σ h hc h0 hB (by omega) h19 hms
        refine ⟨τ, cs', ?_, m2⟩
        show f_X12_tellLaw_12_s _ 77 (nI k) (nI q0) (nI i) σ = _
        unfold f_X12_tellLaw_12_s
        rw [h.2.2.1, if_pos (show nI s.2 = 0 by rw [c0']; rfl), show f_X12_is 77 29 σ = some (0, σ) from kM_isF (k := 265) h rfl (by decide) (fun _ => c1), Option.bind_some]
        dsimp only
        rw [if_pos rfl, m1]
    · rw [if_neg (fun q => c0' q.1)]
      obtain ⟨τ, cs', m1, m2⟩ := fin s bs cs σ h hc h0 hB (by omega) h19 hms
      refine ⟨τ, cs', ?_, m2⟩
      show f_X12_tellLaw_12_s _ 77 (nI k) (nI q0) (nI i) σ = _
      unfold f_X12_tellLaw_12_s
      rw [h.2.2.1, if_neg (nI_ne0 (by omega) (by omega)), m1]
/-- the reference reads a law, behind its word -/
theorem kM_lawr {X : kx_X} {sd k d c0 nb : Nat} {S : kx_sf} {s : kx_S} {cs : List kx_o} {σ : kf_St} (hs : sd < 2) (hk : k < 3) (hd : d = 259 + k) (hS : kx_gd X 15 S) (hM : kx_xM X sd S) (h : kx_RM X s σ) (z0 : s.2 = 0) (hK : kx_K X s.1 = d) (hc : kx_CX sd s cs σ) (h0 : c0 ≤ 420 * sd + cs.length) (hB : σ.1 77 37 = nI (130 * sd + nb)) (hnb : 4 * nb ≤ s.1) (h19 : σ.1 77 19 = nI sd) : ∃ τ cs' nb', f_X12_tellOne_408 77 (nI k) σ = some τ ∧ kx_RM X (kx_tk X 59 (kx_lr X S d s).1) τ ∧ kx_fr (kx_lF sd k c0 (130 * sd + nb)) kx_n0 σ τ ∧ kx_CX sd (kx_tk X 59 (kx_lr X S d s).1) cs' τ ∧ c0 ≤ 420 * sd + cs'.length ∧ nb ≤ nb' ∧ ((kx_tk X 59 (kx_lr X S d s).1).2 = 0 → τ.1 77 37 = nI (130 * sd + nb') ∧ 4 * nb' ≤ (kx_tk X 59 (kx_lr X S d s).1).1 ∧ kx_MW k (kx_lr X S d s).2 sd (420 * sd + cs'.length) (130 * sd + nb') τ) := by
  have t4 := h.1.1.1
  obtain ⟨τ1, a1, a2, a3⟩ := kM_gon h z0 (by omega)
  rw [hK] at a2
  have ca := hc.tk (X := X) (d := d) a3
  obtain ⟨τ2, b1, b2, b3⟩ := kM_must (k := 61) a2 rfl (by decide) (by decide)
  have cb := ca.tk (X := X) (d := 61) b3
  have p2 : τ2.1 77 37 = nI (130 * sd + nb) := (b3.1 77 37 (by unfold kx_mT; omega)).trans ((a3.1 77 37 (by unfold kx_mT; omega)).trans hB)
  have p19 : τ2.1 77 19 = nI sd := (b3.1 77 19 (by unfold kx_mT; omega)).trans ((a3.1 77 19 (by unfold kx_mT; omega)).trans h19)
  obtain ⟨τ3, cs', m1, m2, m3, m4, m5, m6⟩ := kM_ll (k := k) (c0 := c0) (q0 := 130 * sd + nb) hs hk hS hM (by omega) 5 0 (by decide) rfl kf_F (kf_F_gt (by decide)) (kx_tk X 61 (kx_tk X d s)) [] cs τ2 b2 cb h0 p2 (by show 130 * sd + nb + 0 + 5 < _; omega) p19 (fun _ => True.intro)
  rw [← show kx_lr X S d s = kx_ll X S 5 (kx_tk X 61 (kx_tk X d s)) [] from rfl] at m2 m4 m6
  have mm : ∀ {α β : kf_St}, kx_fr kx_mT kx_n0 α β → kx_fr (kx_lF sd k c0 (130 * sd + nb)) kx_n0 α β := fun q => q.mono (fun a b q => Or.inl (by unfold kx_mT at q; unfold kx_eP; omega)) (fun _ _ q => q)
  refine ⟨τ3, cs', nb + (kx_lr X S d s).2.1.length + 1, ?_, m2, ((mm a3).tr (mm b3)).tr m3, m4, m5, by omega, fun q => ?_⟩
  · unfold f_X12_tellOne_408 f_X12_tellLaw
    simp only [kz_lt]
    rw [h.2.2.1, if_pos (show nI s.2 ≤ 0 by rw [z0]; exact Int32.le_refl _), a1, Option.bind_some, show f_X12_must 77 5 τ1 = some τ2 from b1, Option.bind_some, p2, show f_X12_tellLaw_12 kf_F 77 (nI k) (nI (130 * sd + nb)) 0 τ2 = some τ3 from m1, Option.bind_some]
  · obtain ⟨v1, v2, v3, v4⟩ := m6 q
    have L := (kx_ll_ok hS 5 (kx_tk X 61 (kx_tk X d s)) [] b2.1 (fun _ b hb => absurd hb List.not_mem_nil)).2
    rw [← show kx_lr X S d s = kx_ll X S 5 (kx_tk X 61 (kx_tk X d s)) [] from rfl] at L
    have q2 := (L (kx_tk_0 q).1).1
    obtain ⟨y1, y2, y3, y4⟩ := kx_tk_0 q2
    obtain ⟨x1, x2, x3, x4⟩ := kx_tk_0 y1
    have es : (kx_tk X 61 (kx_tk X d s)).1 = s.1 + 2 := by rw [y4, x4]
    rw [es] at v3
    have v3 : s.1 + 2 + 4 * (kx_lr X S d s).2.1.length + 2 ≤ (kx_tk X 59 (kx_lr X S d s).1).1 + 0 := v3
    rw [show 130 * sd + (nb + (kx_lr X S d s).2.1.length + 1) = 130 * sd + nb + (kx_lr X S d s).2.1.length + 1 by omega]
    exact ⟨v1, by omega, v2⟩
