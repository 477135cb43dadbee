/-! ===== pure: the reference reads settings and laws; all that is told ===== -/
theorem kM_ts {X : kx_X} {sd d hi R : Nat} {D : kx_D} {s : kx_S} {σ : kf_St} (hX : X.1 ≤ 2000) (hs : sd < 2) (z0 : s.2 = 0) (hd : 262 ≤ d ∧ d ≤ 264 ∧ R + 166 = d) (hh : hi < 10000) (hK : kx_K X s.1 = d) (h : kx_RM X s σ) (hD : kx_DM X D sd s σ) : ∃ v τ, f_X12_toldInt 77 0 (nI hi) σ = some (v, τ) ∧ kx_RM X (kx_tk X 59 (kx_ts X d hi s D).1) (kf_wi τ R sd v) ∧ ((kx_tk X 59 (kx_ts X d hi s D).1).2 = 0 → kx_DM X (kx_ts X d hi s D).2 sd (kx_tk X 59 (kx_ts X d hi s D).1) (kf_wi τ R sd v)) ∧ kx_fr (kx_tF sd) kx_tG σ (kf_wi τ R sd v) := by
  obtain ⟨⟨ms, li⟩, ⟨m11, m12, m13, m14⟩, nm, m3, m4, m5, m6⟩ := hD
  rw [show (kx_ts X d hi s D).1 = kx_tk X 3 (kx_tk X d s) from rfl]
  obtain ⟨τ1, a1, a2, a3⟩ := kM_gon h z0 (by omega)
  rw [hK] at a2
  obtain ⟨v, τ2, t1, t2, t3, t4⟩ := kM_num (lo := 0) (hi := hi) hX a2 ⟨by decide, hh⟩
  obtain ⟨τ3, u1, u2, u3⟩ := kM_must (k := 59) t2 rfl (by decide) (by decide)
  have cw : kx_fr (fun a b => a = R ∧ b = sd) kx_n0 τ3 (kf_wi τ3 R sd v) := kx_fr.rf.wi ⟨rfl, rfl⟩
  have G : kx_fr (fun a b => kx_nP a b ∨ (a = R ∧ b = sd)) kx_n0 σ (kf_wi τ3 R sd v) := (((a3.mono (fun a b q => Or.inl (by unfold kx_mT at q; unfold kx_nP; omega)) (fun _ _ q => q)).tr (t3.mono (fun _ _ q => Or.inl q) (fun _ _ q => q))).tr (u3.mono (fun a b q => Or.inl (by unfold kx_mT at q; unfold kx_nP; omega)) (fun _ _ q => q))).tr (cw.mono (fun _ _ q => Or.inr q) (fun _ _ q => q))
  refine ⟨v, τ3, ?_, u2.big cw (fun a b q => by omega) (fun _ _ q => q.elim), fun q => ?_, G.mono (fun a b q => by
    rcases q with q | q
    · exact kx_tF_n q
    · exact kx_tF_c ⟨by omega, q.2⟩) (fun _ _ q => q.elim)⟩
  · unfold f_X12_toldInt
    rw [a1, Option.bind_some, show f_X12_bounded 77 0 (nI hi) τ1 = some (v, τ2) from t1, Option.bind_some, show f_X12_must 77 4 τ2 = some τ3 from u1, Option.bind_some]
  · obtain ⟨p1, p2, p3, p4⟩ := kx_tk_0 q
    obtain ⟨n1, n2, n3, n4⟩ := kx_tk_0 p1
    obtain ⟨k1, k2, k3, k4⟩ := kx_tk_0 n1
    have es : (kx_tk X d s).1 = s.1 + 1 := by rw [k4]
    have fin : (kx_tk X 59 (kx_tk X 3 (kx_tk X d s))).1 = s.1 + 3 := by rw [p4, n4, k4]
    obtain ⟨s1, s2⟩ := t4 p1
    obtain ⟨s3, s4⟩ := s2 _ (ms.m a3 ⟨by unfold kx_mT; omega, by unfold kx_mT; omega⟩) (li.le (by omega))
    have sl : (kx_ts X d hi s D).2.1 = kx_nu X 0 hi (kx_tk X d s) (kd_sl D) := rfl
    refine ⟨⟨(s3.m u3 ⟨by unfold kx_mT; omega, by unfold kx_mT; omega⟩).m cw ⟨by omega, by omega⟩, s4.le (by rw [fin]; omega)⟩, ⟨(G.1 87 sd (by unfold kx_nP; omega)).trans m11, (G.1 89 sd (by unfold kx_nP; omega)).trans m12, (G.1 91 sd (by unfold kx_nP; omega)).trans m13, (G.1 77 19 (by unfold kx_nP; omega)).trans m14⟩, (nm.fr G (by unfold kx_nP; omega) (fun b => by unfold kx_nP; omega) (fun b q => q)).eq rfl rfl rfl, m3.fr G (fun b => by unfold kx_nP; omega) (fun b => by unfold kx_nP; omega) rfl rfl rfl, fun ql r hr => ?_, ?_, m6.fr G (fun a b q => by unfold kx_nP at q; omega) rfl (by rw [fin]; omega)⟩
    · obtain ⟨h1, h2, h3, h4⟩ := m4 (kx_nu_0 ql).1 r hr
      exact ⟨(G.1 92 _ (by unfold kx_nP; omega)).trans h1, (G.1 93 _ (by unfold kx_nP; omega)).trans h2, (G.1 94 _ (by unfold kx_nP; omega)).trans h3, (G.1 95 _ (by unfold kx_nP; omega)).trans h4⟩
    · show _ = nI (if d = 262 then _ else _) ∧ _ = nI (if d = 263 then _ else _) ∧ _ = nI (if d = 264 then _ else _)
      refine ⟨?_, ?_, ?_⟩
      · by_cases e : d = 262
        · rw [if_pos e, show R = 96 by omega, kp_wi_same, s1]
        · rw [if_neg e, G.1 96 sd (by unfold kx_nP; omega)]; exact m5.1
      · by_cases e : d = 263
        · rw [if_pos e, show R = 97 by omega, kp_wi_same, s1]
        · rw [if_neg e, G.1 97 sd (by unfold kx_nP; omega)]; exact m5.2.1
      · by_cases e : d = 264
        · rw [if_pos e, show R = 98 by omega, kp_wi_same, s1]
        · rw [if_neg e, G.1 98 sd (by unfold kx_nP; omega)]; exact m5.2.2
theorem kM_tl {X : kx_X} {S : kx_sf} {sd k d : Nat} {D : kx_D} {s : kx_S} (hs : sd < 2) (hS : kx_gd X 15 S) (hM : kx_xM X sd S) (hk : k < 3) (hd : d = 259 + k) (z0 : s.2 = 0) (hK : kx_K X s.1 = d) : kx_kM X sd D s (f_X12_tellOne_408 77 (nI k)) (kx_tl X S d s D) := by
  intro σ h ⟨⟨ms, li⟩, ⟨m11, m12, m13, m14⟩, nm, m3, m4, m5, m6⟩
  obtain ⟨cs, nb, ⟨a1, a2, a3⟩, b1, b2, c1, c2, c3⟩ := m6
  have t4 := h.1.1.1
  rw [show (kx_tl X S d s D).1 = (kx_lr X S d s).1 from rfl]
  obtain ⟨τ, cs', nb', u1, u2, u3, u4, u5, u6, u7⟩ := kM_lawr (c0 := 420 * sd + cs.length) hs hk hd hS hM h z0 hK (fun _ => ⟨a1, a2, a3⟩) (Nat.le_refl _) b1 b2 m14
  refine ⟨τ, u1, u2, fun q => ?_, u3.mono (fun a b q => kx_tF_l hk (by omega) (by omega) q) (fun _ _ q => q.elim)⟩
  obtain ⟨v1, v2, v3⟩ := u7 q
  have L := (kx_ll_ok hS 5 (kx_tk X 61 (kx_tk X d s)) [] (kx_tk_g (by decide) (kx_tk_g (by omega) h.1)) (fun _ b hb => absurd hb List.not_mem_nil)).2
  rw [← show kx_lr X S d s = kx_ll X S 5 (kx_tk X 61 (kx_tk X d s)) [] from rfl] at L
  obtain ⟨x1, x2, -⟩ := L (kx_tk_0 q).1
  have le1 := kx_tk_le X 59 (kx_lr X S d s).1
  have le2 := kx_tk_le X 61 (kx_tk X d s)
  have le3 := kx_tk_le X d s
  have ns : ∀ a b, a < 99 → (a = 77 → b < 11 ∨ (14 < b ∧ b < 37)) → ¬ kx_lF sd k (420 * sd + cs.length) (130 * sd + nb) a b := fun a b h1 h2 q => by unfold kx_lF kx_eP at q; omega
  refine ⟨⟨ms.m u3 ⟨ns 77 15 (by decide) (by omega), ns 77 16 (by decide) (by omega)⟩, li.le (by omega)⟩, ⟨(u3.1 87 sd (ns _ _ (by decide) (by omega))).trans m11, (u3.1 89 sd (ns _ _ (by decide) (by omega))).trans m12, (u3.1 91 sd (ns _ _ (by decide) (by omega))).trans m13, (u3.1 77 19 (ns _ _ (by decide) (by omega))).trans m14⟩, (nm.fr u3 (ns _ _ (by decide) (by omega)) (fun b => ns _ _ (by decide) (by omega)) (fun b q => q)).eq rfl rfl rfl, m3.fr u3 (fun b => ns _ _ (by decide) (by omega)) (fun b => ns _ _ (by decide) (by omega)) rfl rfl rfl, fun ql r hr => ?_, ⟨(u3.1 96 sd (ns _ _ (by decide) (by omega))).trans m5.1, (u3.1 97 sd (ns _ _ (by decide) (by omega))).trans m5.2.1, (u3.1 98 sd (ns _ _ (by decide) (by omega))).trans m5.2.2⟩, ?_⟩
  · obtain ⟨h1, h2, h3, h4⟩ := m4 ql r hr
    exact ⟨(u3.1 92 _ (ns _ _ (by decide) (by omega))).trans h1, (u3.1 93 _ (ns _ _ (by decide) (by omega))).trans h2, (u3.1 94 _ (ns _ _ (by decide) (by omega))).trans h3, (u3.1 95 _ (ns _ _ (by decide) (by omega))).trans h4⟩
  · have old : ∀ k' o, k' < 3 → k' ≠ k → kx_MO k' o sd (420 * sd + cs.length) (130 * sd + nb) σ → kx_MO k' o sd (420 * sd + cs'.length) (130 * sd + nb') τ := fun k' o h1 h2 ho => kx_MO_le (by omega) (by omega) (kx_MO_ag (u3.1 99 _ (by unfold kx_lF kx_eP; omega)) (u3.1 100 _ (by unfold kx_lF kx_eP; omega)) (kx_lF_ab u3) ho)
    obtain ⟨w1, w2, w3⟩ := u4 q
    refine ⟨cs', nb', ⟨w1, w2, w3⟩, v1, v2, ?_, ?_, ?_⟩
    · show kx_MO 0 (if d = 259 then _ else _) _ _ _ τ
      by_cases e : d = 259
      · rw [if_pos e]
        have : k = 0 := by omega
        subst this
        exact v3
      · rw [if_neg e]; exact old 0 _ (by decide) (by omega) c1
    · show kx_MO 1 (if d = 260 then _ else _) _ _ _ τ
      by_cases e : d = 260
      · rw [if_pos e]
        have : k = 1 := by omega
        subst this
        exact v3
      · rw [if_neg e]; exact old 1 _ (by decide) (by omega) c2
    · show kx_MO 2 (if d = 261 then _ else _) _ _ _ τ
      by_cases e : d = 261
      · rw [if_pos e]
        have : k = 2 := by omega
        subst this
        exact v3
      · rw [if_neg e]; exact old 2 _ (by decide) (by omega) c3
theorem kM_tell {X : kx_X} {S : kx_sf} {sd : Nat} {D : kx_D} {s : kx_S} {σ : kf_St} (hX : X.1 ≤ 2000) (hs : sd < 2) (hS : kx_gd X 15 S) (hM : kx_xM X sd S) (hb : kx_Db D) (z0 : s.2 = 0) (h : kx_RM X s σ) (hD : kx_DM X D sd s σ) : ∃ τ, f_X12_tellOne 77 σ = some τ ∧ kx_RM X (kx_te X S s D).1 τ ∧ ((kx_te X S s D).1.2 = 0 → kx_DM X (kx_te X S s D).2 sd (kx_te X S s D).1 τ) ∧ kx_fr (kx_tF sd) kx_tG σ τ := by
  have t4 := h.1.1.1
  have kl := kx_km_lt (kx_Kv X s.1)
  have e11 := h.2.2.2.1 z0
  have e80 := (h.2.1 s.1 h.1.1).1
  have e19 : σ.1 77 19 = nI sd := hD.2.1.2.2.2
  have ne : ∀ {b m : Nat}, kx_vb b = true → b < 277 → kx_km b = m → m < 41 → ¬ kx_K X s.1 = b → ¬ nI (kx_km (kx_K X s.1)) = nI m := fun v1 v2 e m41 q z => q (kx_km_inj (kx_Kv X s.1) v1 (((nI_eq (by omega) (by omega)).mp z).trans e.symm) v2)
  have ys : ∀ {b m : Nat}, kx_km b = m → kx_K X s.1 = b → nI (kx_km (kx_K X s.1)) = nI m := fun e q => by rw [q, e]
  have sdc : (nI sd).toNatClampNeg = sd := nI_clamp (by omega)
  have i2 : kf_ix (nI sd) 2 = true := kf_ixN hs (by decide)
  unfold f_X12_tellOne kx_te kx_t1
  simp only [kz_lt]
  rw [e11, kr77_5, kl80, if_pos (kf_ixN (by omega) (by decide)), show (nI s.1).toNatClampNeg = s.1 from nI_clamp (by omega), e80, e19, kr77_23, kr77_25, kr77_27, kr77_32, kr77_33, kr77_34, kl87, kl89, kl91, kl96, kl97, kl98, if_pos i2, sdc]
  by_cases c1 : kx_K X s.1 = 256
  · rw [if_pos (show nI (kx_km (kx_K X s.1)) = 20 from ys (m := 20) rfl c1), if_pos c1]
    exact kM_td hX hs hb z0 c1 σ h hD
  rw [if_neg (show ¬ nI (kx_km (kx_K X s.1)) = 20 from ne (b := 256) (m := 20) rfl (by decide) rfl (by decide) c1), if_neg c1]
  by_cases c2 : kx_K X s.1 = 257
  · rw [if_pos (show nI (kx_km (kx_K X s.1)) = 21 from ys (m := 21) rfl c2), if_pos c2]
    first | exact kM_tc hX hs hb z0 c2 σ h hD | (rw [if_pos i2]; exact kM_tc hX hs hb z0 c2 σ h hD)
  rw [if_neg (show ¬ nI (kx_km (kx_K X s.1)) = 21 from ne (b := 257) (m := 21) rfl (by decide) rfl (by decide) c2), if_neg c2]
  by_cases c3 : kx_K X s.1 = 258
  · rw [if_pos (show nI (kx_km (kx_K X s.1)) = 22 from ys (m := 22) rfl c3), if_pos c3]
    first | exact kM_trd hX hs hb z0 c3 σ h hD | (rw [if_pos i2]; exact kM_trd hX hs hb z0 c3 σ h hD)
  rw [if_neg (show ¬ nI (kx_km (kx_K X s.1)) = 22 from ne (b := 258) (m := 22) rfl (by decide) rfl (by decide) c3), if_neg c3]
  by_cases c7 : kx_K X s.1 = 262
  · rw [if_pos (show nI (kx_km (kx_K X s.1)) = 26 from ys (m := 26) rfl c7), if_neg (show ¬ (kx_K X s.1 = 259 ∨ kx_K X s.1 = 260 ∨ kx_K X s.1 = 261) by omega), if_pos c7]
    obtain ⟨v, τ, t1, t2, t3, t5⟩ := kM_ts (d := 262) (hi := 100) (R := 96) (D := D) hX hs z0 (by decide) (by decide) c7 h hD
    refine ⟨_, ?_, t2, t3, t5⟩
    rw [show f_X12_toldInt 77 0 100 σ = some (v, τ) from t1, Option.bind_some]
    try rw [if_pos i2]
  rw [if_neg (show ¬ nI (kx_km (kx_K X s.1)) = 26 from ne (b := 262) (m := 26) rfl (by decide) rfl (by decide) c7)]
  by_cases c8 : kx_K X s.1 = 263
  · rw [if_pos (show nI (kx_km (kx_K X s.1)) = 27 from ys (m := 27) rfl c8), if_neg (show ¬ (kx_K X s.1 = 259 ∨ kx_K X s.1 = 260 ∨ kx_K X s.1 = 261) by omega), if_neg c7, if_pos c8]
    obtain ⟨v, τ, t1, t2, t3, t5⟩ := kM_ts (d := 263) (hi := 396) (R := 97) (D := D) hX hs z0 (by decide) (by decide) c8 h hD
    refine ⟨_, ?_, t2, t3, t5⟩
    rw [show f_X12_toldInt 77 0 396 σ = some (v, τ) from t1, Option.bind_some]
    try rw [if_pos i2]
  rw [if_neg (show ¬ nI (kx_km (kx_K X s.1)) = 27 from ne (b := 263) (m := 27) rfl (by decide) rfl (by decide) c8)]
  by_cases c9 : kx_K X s.1 = 264
  · rw [if_pos (show nI (kx_km (kx_K X s.1)) = 28 from ys (m := 28) rfl c9), if_neg (show ¬ (kx_K X s.1 = 259 ∨ kx_K X s.1 = 260 ∨ kx_K X s.1 = 261) by omega), if_neg c7, if_neg c8, if_pos c9]
    obtain ⟨v, τ, t1, t2, t3, t5⟩ := kM_ts (d := 264) (hi := 9999) (R := 98) (D := D) hX hs z0 (by decide) (by decide) c9 h hD
    refine ⟨_, ?_, t2, t3, t5⟩
    rw [show f_X12_toldInt 77 0 9999 σ = some (v, τ) from t1, Option.bind_some]
    try rw [if_pos i2]
  rw [if_neg (show ¬ nI (kx_km (kx_K X s.1)) = 28 from ne (b := 264) (m := 28) rfl (by decide) rfl (by decide) c9)]
  unfold f_X12_tellOne_372
  simp only [kz_lt]
  rw [e11, kr77_5, kl80, if_pos (kf_ixN (by omega) (by decide)), show (nI s.1).toNatClampNeg = s.1 from nI_clamp (by omega), e80]
  by_cases c5 : kx_K X s.1 = 259 ∨ kx_K X s.1 = 260 ∨ kx_K X s.1 = 261
  · have ek : kx_km (kx_K X s.1) = 23 + (kx_K X s.1 - 259) := by
      rcases c5 with q | q | q <;> rw [q] <;> rfl
    rw [ek, if_pos c5, show nI (23 + (kx_K X s.1 - 259)) - 23 = nI (kx_K X s.1 - 259) by rw [show (23 : Int32) = nI 23 from rfl, pk_sub (by omega), Nat.add_sub_cancel_left], if_neg (nI_pos (by omega)), if_pos (kf_ixN (by omega) (by decide)), if_pos (show nI (23 + (kx_K X s.1 - 259)) ≤ 25 from nI_le (b := 25) (by omega) (by decide))]
    exact kM_tl (k := kx_K X s.1 - 259) hs hS hM (by omega) (by omega) z0 rfl σ h hD
  · rw [if_neg c5, if_neg c7, if_neg c8, if_neg c9]
    dsimp only
    rw [kx_tk_f (show (1 : Nat) ≠ 0 by decide)]
    obtain ⟨τ1, a1, a2, a3⟩ := kM_fail (k := 1) h (by decide)
    rw [if_pos z0] at a2
    have run : ∀ v, f_X12_tellOne_403 77 v σ = some τ1 := by
      intro v
      unfold f_X12_tellOne_403 f_X12_tellOne_408
      rw [show f_X12_fail 77 1 σ = some τ1 from a1, Option.bind_some, a2.2.2.1, if_neg (show ¬ nI 1 ≤ 0 by decide)]
    refine ⟨τ1, ?_, a2, fun q => absurd q (by show ¬ 1 = 0; decide), a3.mono (fun a b q => Or.inl ⟨q.1, by have := q.2; omega⟩) (fun _ _ q => q.elim)⟩
    rw [run]
    by_cases q : nI (kx_km (kx_K X s.1)) - 23 < 0
    · rw [if_pos q]
    · rw [if_neg q, if_pos (kf_ixN (by omega) (by decide))]
      have g23 : 23 ≤ kx_km (kx_K X s.1) := by
        by_cases w : 23 ≤ kx_km (kx_K X s.1)
        · exact w
        · exact absurd (pk_sneg (a := kx_km (kx_K X s.1)) (b := 23) (by omega) (by omega)) q
      have z := (kx_ki_all _ (kx_K_lt X s.1) (kx_vk_b (kx_Kv X s.1))).1
      unfold kx_ki at z
      rw [if_neg (by omega), if_neg (by omega), if_neg (by omega), if_neg (by omega), if_neg (by omega), if_neg (by omega), if_neg (by omega), if_neg (by omega), if_neg (by omega), if_neg (by omega), if_neg (by omega), if_neg (by omega), if_neg (by omega)] at z
      rw [if_neg (show ¬ nI (kx_km (kx_K X s.1)) ≤ 25 from nI_ge (a := 25) (by omega) (by omega))]
