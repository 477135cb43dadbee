/-! ===== pure: the reference reads rounds, settings, laws ===== -/
theorem kx_M3.fr {D D' : kx_D} {sd : Nat} {P Q : Nat → Nat → Prop} {σ τ : kf_St} (h : kx_M3 D sd σ) (c : kx_fr P Q σ τ) (h0 : ∀ b, ¬ P 88 b) (h1 : ∀ b, ¬ P 90 b) (e1 : D'.2.1.1 = D.2.1.1) (e2 : D'.2.1.2.1 = D.2.1.2.1) (e : D'.2.2.2.1 = D.2.2.2.1) : kx_M3 D' sd τ := by
  unfold kx_M3 kd_nd kd_nc kd_fi kd_lo at *
  rw [e1, e2, e, c.row h0, c.row h1]
  exact h
theorem kx_NM.eq {D D' : kx_D} {σ : kf_St} (h : kx_NM D σ) (e1 : D'.2.1.1 = D.2.1.1) (e2 : D'.2.1.2.1 = D.2.1.2.1) (e : D'.2.2.1 = D.2.2.1) : kx_NM D' σ := by
  unfold kx_NM kd_nd kd_nc kd_dn kd_cn at *
  rw [e1, e2, e]
  exact h
set_option maxHeartbeats 300000 in
theorem kM_trd {X : kx_X} {sd : Nat} {D : kx_D} {s : kx_S} (hX : X.1 ≤ 2000) (hs : sd < 2) (hb : kx_Db D) (z0 : s.2 = 0) (hK : kx_K X s.1 = 258) : kx_kM X sd D s (fun σ => (f_X12_roomFor 77 (σ.1 91 sd) 10 σ).bind fun q_14 => if (q_14.1 77 13) = 0 then (f_X12_tellRound 77 q_14).bind fun q_16 => some q_16 else some q_14) (kx_tr X s D) := by
  intro σ h ⟨⟨ms, li⟩, ⟨m11, m12, m13, m14⟩, nm, m3, m4, m5, m6⟩
  obtain ⟨b1, b2, b3⟩ := hb
  obtain ⟨τ1, a1, a2, a3⟩ := kM_room (n := kd_nr D) (M := 10) h z0 (by omega) (by omega) (by decide)
  rw [hK] at a2
  dsimp only
  rw [m13, show f_X12_roomFor 77 (nI (kd_nr D)) 10 σ = some τ1 from a1, Option.bind_some]
  unfold kx_tr
  by_cases c : kd_nr D < 10
  · rw [if_pos c] at a2 ⊢
    dsimp only
    rw [← show kx_r1 X s = kx_tk X 258 s from rfl] at a2
    have f2 := a2.1.2
    by_cases z : (kx_r1 X s).2 = 0
    · rw [a2.2.2.1, if_pos (show nI _ = 0 by rw [z]; rfl)]
      have es : (kx_r1 X s).1 = s.1 + 1 := by
        have z' : (kx_tk X 258 s).2 = 0 := z
        show (kx_tk X 258 s).1 = _
        rw [(kx_tk_0 z').2.2.2]
      have g19 : τ1.1 77 19 = nI sd := (a3.1 77 19 (by unfold kx_mT; omega)).trans m14
      have g91 : τ1.1 91 sd = nI (kd_nr D) := (a3.1 91 sd (by unfold kx_mT; omega)).trans m13
      have nm1 := nm.fr a3 (by unfold kx_mT; omega) (fun b => by unfold kx_mT; omega) (fun b q => q)
      obtain ⟨v1, τ2, t1, t2, t3, t4⟩ := kM_kno (D := D) (base := 10) (n := kd_nc D) (g := kd_cn D) hX a2 (Or.inr rfl) (by omega) (by omega) nm1.1 nm1.2.1 nm1.2.2.2
      rw [← show kx_r2 X s = kx_tk X 2 (kx_r1 X s) from rfl] at t2 t4
      have w2 : kx_fr (fun a b => a = 92 ∧ b = 10 * sd + kd_nr D) kx_n0 τ2 (kf_wi τ2 92 (10 * sd + kd_nr D) v1) := kx_fr.rf.wi ⟨rfl, rfl⟩
      generalize hx2 : kf_wi τ2 92 (10 * sd + kd_nr D) v1 = ρ2 at w2
      have nm2 := (nm1.fr t3 (by unfold kx_nP; omega) (fun b => by unfold kx_nP; omega) (fun b q => q)).fr w2 (by omega) (fun b => by omega) (fun b q => q)
      have rm2 := t2.big w2 (fun a b q => by omega) (fun _ _ q => q.elim)
      obtain ⟨v2, τ3, u1, u2, u3, u4⟩ := kM_kno (D := D) (base := 0) (n := kd_nd D) (g := kd_dn D) hX rm2 (Or.inl rfl) (by omega) (by omega) nm2.1 nm2.2.1 nm2.2.2.1
      rw [← show kx_r3 X s = kx_tk X 2 (kx_r2 X s) from rfl] at u2 u4
      have w3 : kx_fr (fun a b => a = 93 ∧ b = 10 * sd + kd_nr D) kx_n0 τ3 (kf_wi τ3 93 (10 * sd + kd_nr D) v2) := kx_fr.rf.wi ⟨rfl, rfl⟩
      generalize hx3 : kf_wi τ3 93 (10 * sd + kd_nr D) v2 = ρ3 at w3
      obtain ⟨v3, τ4, x1, x2, x3, x4⟩ := kM_num (lo := 1) (hi := 30) hX (u2.big w3 (fun a b q => by omega) (fun _ _ q => q.elim)) (by decide)
      rw [← show kx_r4 X s = kx_tk X 3 (kx_r3 X s) from rfl] at x2 x4
      have w4 : kx_fr (fun a b => a = 94 ∧ b = 10 * sd + kd_nr D) kx_n0 τ4 (kf_wi τ4 94 (10 * sd + kd_nr D) v3) := kx_fr.rf.wi ⟨rfl, rfl⟩
      generalize hx4 : kf_wi τ4 94 (10 * sd + kd_nr D) v3 = ρ4 at w4
      obtain ⟨v4, τ5, y1, y2, y3, y4⟩ := kM_num (lo := 0) (hi := 29) hX (x2.big w4 (fun a b q => by omega) (fun _ _ q => q.elim)) (by decide)
      have w5 : kx_fr (fun a b => a = 95 ∧ b = 10 * sd + kd_nr D) kx_n0 τ5 (kf_wi τ5 95 (10 * sd + kd_nr D) v4) := kx_fr.rf.wi ⟨rfl, rfl⟩
      generalize hx5 : kf_wi τ5 95 (10 * sd + kd_nr D) v4 = ρ5 at w5
      have rm5 := y2.big w5 (fun a b q => by omega) (fun _ _ q => q.elim)
      obtain ⟨τ6, o1, o2, o3⟩ := kM_must (k := 59) rm5 rfl (by decide) (by decide)
      have i2 : (kx_r2 X s).2 = 0 → (kx_r2 X s).1 = (kx_r1 X s).1 + 1 := fun q => by
        have q : (kx_tk X 2 (kx_r1 X s)).2 = 0 := q
        show (kx_tk X 2 (kx_r1 X s)).1 = _
        rw [(kx_tk_0 q).2.2.2]
      have i3 : (kx_r3 X s).2 = 0 → (kx_r2 X s).2 = 0 ∧ (kx_r3 X s).1 = (kx_r2 X s).1 + 1 := fun q => by
        have q : (kx_tk X 2 (kx_r2 X s)).2 = 0 := q
        refine ⟨(kx_tk_0 q).1, ?_⟩
        show (kx_tk X 2 (kx_r2 X s)).1 = _
        rw [(kx_tk_0 q).2.2.2]
      have i4 : (kx_r4 X s).2 = 0 → (kx_r3 X s).2 = 0 ∧ (kx_r4 X s).1 = (kx_r3 X s).1 + 1 := fun q => by
        have q : (kx_tk X 3 (kx_r3 X s)).2 = 0 := q
        refine ⟨(kx_tk_0 q).1, ?_⟩
        show (kx_tk X 3 (kx_r3 X s)).1 = _
        rw [(kx_tk_0 q).2.2.2]
      have PN : ∀ {α β : kf_St}, kx_fr kx_nP kx_n0 α β → kx_fr (fun a b => kx_nP a b ∨ (92 ≤ a ∧ a ≤ 95 ∧ b = 10 * sd + kd_nr D)) kx_n0 α β := fun q => q.mono (fun _ _ z => Or.inl z) (fun _ _ z => z)
      have PW : ∀ {α β : kf_St} {k : Nat}, (92 ≤ k ∧ k ≤ 95) → kx_fr (fun a b => a = k ∧ b = 10 * sd + kd_nr D) kx_n0 α β → kx_fr (fun a b => kx_nP a b ∨ (92 ≤ a ∧ a ≤ 95 ∧ b = 10 * sd + kd_nr D)) kx_n0 α β := fun hk q => q.mono (fun _ _ z => Or.inr ⟨by omega, by omega, z.2⟩) (fun _ _ z => z)
      have PM : ∀ {α β : kf_St}, kx_fr kx_mT kx_n0 α β → kx_fr (fun a b => kx_nP a b ∨ (92 ≤ a ∧ a ≤ 95 ∧ b = 10 * sd + kd_nr D)) kx_n0 α β := fun q => q.mono (fun a b z => Or.inl (by unfold kx_mT at z; unfold kx_nP; omega)) (fun _ _ z => z)
      have G5 := (PW (by decide) w5).tr (PM o3)
      have G45 := (PN y3).tr G5
      have G4 := (PW (by decide) w4).tr G45
      have G34 := (PN x3).tr G4
      have G3 := (PW (by decide) w3).tr G34
      have G23 := (PN u3).tr G3
      have G2 := (PW (by decide) w2).tr G23
      have G := ((PM a3).tr (PN t3)).tr G2
      have IX : ∀ k, kf_ln k = 20 → kf_ix (nI (10 * sd + kd_nr D)) (kf_ln k) = true := fun k hk => by rw [hk]; exact kf_ixN (by omega) (by decide)
      have f6 := o2.1.2
      have e10 : (10 : Int32) * nI sd + nI (kd_nr D) = nI (10 * sd + kd_nr D) := by rw [show (10 : Int32) = nI 10 from rfl, pk_mul, nI_add]
      have j19 : τ6.1 77 19 = nI sd := (G.1 77 19 (by unfold kx_nP; omega)).trans m14
      have j91 : τ6.1 91 sd = nI (kd_nr D) := (G.1 91 sd (by unfold kx_nP; omega)).trans m13
      have run : ∀ z, (if (kx_tk X 59 (kx_tk X 3 (kx_r4 X s))).2 = 0 then some (kf_wi τ6 91 sd (nI (kd_nr D + 1))) else some τ6) = z → ((f_X12_tellRound 77 τ1).bind fun q_16 => some q_16) = z := by
        intro zz hz
        unfold f_X12_tellRound
        simp only [kz_lt]
        rw [g19, kr77_27, kl91, if_pos (kf_ixN (by omega) (by decide)), nI_clamp (by omega), g91, e10, show f_X12_known 77 10 τ1 = some (v1, τ2) from t1, Option.bind_some, kr77_28, if_pos (IX 92 kl92), show (nI (10 * sd + kd_nr D)).toNatClampNeg = 10 * sd + kd_nr D from nI_clamp (by omega)]
        dsimp only
        rw [hx2, show f_X12_known 77 0 ρ2 = some (v2, τ3) from u1, Option.bind_some, kr77_29, if_pos (IX 93 kl93)]
        dsimp only
        rw [hx3, show f_X12_bounded 77 1 30 ρ3 = some (v3, τ4) from x1, Option.bind_some, kr77_30, if_pos (IX 94 kl94)]
        dsimp only
        rw [hx4, show f_X12_bounded 77 0 29 ρ4 = some (v4, τ5) from y1, Option.bind_some, kr77_31, if_pos (IX 95 kl95)]
        dsimp only
        rw [hx5, show f_X12_must 77 4 ρ5 = some τ6 from o1, Option.bind_some, o2.2.2.1, ← hz]
        by_cases q : (kx_tk X 59 (kx_tk X 3 (kx_r4 X s))).2 = 0
        · rw [if_pos (show nI _ = 0 by rw [q]; rfl), if_pos q, j19, if_pos (kf_ixN (by omega) (by decide)), if_pos (kf_ixN (by omega) (by decide)), nI_clamp (by omega), j91, nI_1, Option.bind_some]
        · rw [if_neg (nI_ne0 (by omega) (by omega)), if_neg q, Option.bind_some]
      have GF : kx_fr (kx_tF sd) kx_tG σ τ6 := G.mono (fun a b q => by
        rcases q with q | q
        · exact kx_tF_n q
        · exact kx_tF_r ⟨q.1, q.2.1, by omega, by omega⟩) (fun _ _ q => q.elim)
      by_cases q : (kx_tk X 59 (kx_tk X 3 (kx_r4 X s))).2 = 0
      · have cw : kx_fr (fun a b => a = 91 ∧ b = sd) kx_n0 τ6 (kf_wi τ6 91 sd (nI (kd_nr D + 1))) := kx_fr.rf.wi ⟨rfl, rfl⟩
        refine ⟨_, run _ (if_pos q), o2.big cw (fun a b q => by omega) (fun _ _ q => q.elim), fun _ => ?_, GF.tr (cw.mono (fun a b q => kx_tF_c ⟨by omega, q.2⟩) (fun _ _ q => q.elim))⟩
        obtain ⟨p1, p2, p3, p4⟩ := kx_tk_0 q
        obtain ⟨n1, n2, n3, n4⟩ := kx_tk_0 p1
        obtain ⟨k3, k4⟩ := i4 n1
        obtain ⟨k2, k5⟩ := i3 k3
        have k6 := i2 k2
        have fin : (kx_tk X 59 (kx_tk X 3 (kx_r4 X s))).1 = s.1 + 7 - 1 := by
          rw [p4, n4]
          show (kx_r4 X s).1 + 1 + 1 = _
          omega
        obtain ⟨s1, s2⟩ := t4 k2
        obtain ⟨s3, s4⟩ := s2 _ (ms.m a3 ⟨by unfold kx_mT; omega, by unfold kx_mT; omega⟩) (li.le (by omega))
        obtain ⟨s5, s6⟩ := u4 k3
        obtain ⟨s7, s8⟩ := s6 _ (s3.m w2 ⟨by omega, by omega⟩) (by rw [k6]; exact s4)
        obtain ⟨s9, s10⟩ := x4 n1
        obtain ⟨s11, s12⟩ := s10 _ (s7.m w3 ⟨by omega, by omega⟩) (by rw [k5]; exact s8)
        obtain ⟨s13, s14⟩ := y4 p1
        obtain ⟨s15, s16⟩ := s14 _ (s11.m w4 ⟨by omega, by omega⟩) (by rw [k4]; exact s12)
        have G' : kx_fr (fun a b => (kx_nP a b ∨ (92 ≤ a ∧ a ≤ 95 ∧ b = 10 * sd + kd_nr D)) ∨ (a = 91 ∧ b = sd)) kx_n0 σ (kf_wi τ6 91 sd (nI (kd_nr D + 1))) := (G.mono (fun _ _ q => Or.inl q) (fun _ _ q => q)).tr (cw.mono (fun _ _ q => Or.inr q) (fun _ _ q => q))
        refine ⟨⟨((s15.m w5 ⟨by omega, by omega⟩).m o3 ⟨by unfold kx_mT; omega, by unfold kx_mT; omega⟩).m cw ⟨by omega, by omega⟩, s16.le (by rw [fin]; omega)⟩, ⟨(G'.1 87 sd (by unfold kx_nP; omega)).trans m11, (G'.1 89 sd (by unfold kx_nP; omega)).trans m12, kp_wi_same _ _ _ _, (G'.1 77 19 (by unfold kx_nP; omega)).trans m14⟩, (nm.fr G' (by unfold kx_nP; omega) (fun b => by unfold kx_nP; omega) (fun b q => q)).eq rfl rfl rfl, m3.fr G' (fun b => by unfold kx_nP; omega) (fun b => by unfold kx_nP; omega) rfl rfl rfl, fun ql r hr => ?_, ⟨(G'.1 96 sd (by unfold kx_nP; omega)).trans m5.1, (G'.1 97 sd (by unfold kx_nP; omega)).trans m5.2.1, (G'.1 98 sd (by unfold kx_nP; omega)).trans m5.2.2⟩, m6.fr G' (fun a b q => by unfold kx_nP at q; omega) rfl (by rw [fin]; omega)⟩
        have hr : r < kd_nr D + 1 := hr
        show _ = nI (kx_up (kd_rc D) (kd_nr D) _ r) ∧ _ = nI (kx_up (kd_rd D) (kd_nr D) _ r) ∧ _ = nI (kx_up (kd_ev D) (kd_nr D) _ r) ∧ _ = nI (kx_up (kd_fr D) (kd_nr D) _ r)
        obtain ⟨l1, -, -⟩ := kx_nu_0 ql
        obtain ⟨l2, -, -⟩ := kx_nu_0 l1
        obtain ⟨l3, lt2⟩ := kx_l4_0 l2
        obtain ⟨l4, lt1⟩ := kx_l4_0 l3
        by_cases e : r = kd_nr D
        · rw [e, kx_up_s, kx_up_s, kx_up_s, kx_up_s]
          unfold kx_f0
          rw [if_pos lt1, if_pos lt2]
          refine ⟨?_, ?_, ?_, ?_⟩
          · rw [kp_wi_row (by decide), o3.1 92 _ (by unfold kx_mT; omega), w5.1 92 _ (by omega), y3.1 92 _ (by unfold kx_nP; omega), w4.1 92 _ (by omega), x3.1 92 _ (by unfold kx_nP; omega), w3.1 92 _ (by omega), u3.1 92 _ (by unfold kx_nP; omega), ← hx2, kp_wi_same, s1 lt1]
          · rw [kp_wi_row (by decide), o3.1 93 _ (by unfold kx_mT; omega), w5.1 93 _ (by omega), y3.1 93 _ (by unfold kx_nP; omega), w4.1 93 _ (by omega), x3.1 93 _ (by unfold kx_nP; omega), ← hx3, kp_wi_same, s5 lt2]
          · rw [kp_wi_row (by decide), o3.1 94 _ (by unfold kx_mT; omega), w5.1 94 _ (by omega), y3.1 94 _ (by unfold kx_nP; omega), ← hx4, kp_wi_same, s9]
          · rw [kp_wi_row (by decide), o3.1 95 _ (by unfold kx_mT; omega), ← hx5, kp_wi_same, s13]
        · rw [kx_up_o e, kx_up_o e, kx_up_o e, kx_up_o e]
          obtain ⟨h1, h2, h3, h4⟩ := m4 l4 r (by omega)
          exact ⟨(G'.1 92 _ (by unfold kx_nP; omega)).trans h1, (G'.1 93 _ (by unfold kx_nP; omega)).trans h2, (G'.1 94 _ (by unfold kx_nP; omega)).trans h3, (G'.1 95 _ (by unfold kx_nP; omega)).trans h4⟩
      · exact ⟨τ6, run _ (if_neg q), o2, fun z => absurd z q, GF⟩
    · rw [a2.2.2.1, if_neg (nI_ne0 (by omega) (by omega))]
      have e2 : kx_r2 X s = kx_r1 X s := kx_tk_f z
      have e3 : kx_r3 X s = kx_r1 X s := by unfold kx_r3; rw [e2]; exact kx_tk_f z
      have e4 : kx_r4 X s = kx_r1 X s := by unfold kx_r4; rw [e3]; exact kx_tk_f z
      rw [e4, kx_tk_f z, kx_tk_f z]
      exact ⟨τ1, rfl, a2, fun q => absurd q z, a3.mono (fun a b q => kx_tF_m q) (fun _ _ q => q.elim)⟩
  · rw [if_neg c] at a2 ⊢
    rw [a2.2.2.1, if_neg (show ¬ nI 2 = 0 by decide)]
    dsimp only
    rw [kx_tk_f (show (2 : Nat) ≠ 0 by decide)]
    exact ⟨τ1, rfl, a2, fun q => absurd q (by show ¬ 2 = 0; decide), a3.mono (fun a b q => kx_tF_m q) (fun _ _ q => q.elim)⟩
