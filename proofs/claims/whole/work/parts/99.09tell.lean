/-! ===== pure: the reference reads callers ===== -/
set_option maxHeartbeats 300000 in
theorem kM_tc {X : kx_X} {sd : Nat} {D : kx_D} {s : kx_S} (hX : X.1 ≤ 2000) (hs : sd < 2) (hb : kx_Db D) (z0 : s.2 = 0) (hK : kx_K X s.1 = 257) : kx_kM X sd D s (fun σ => (f_X12_roomFor 77 (σ.1 89 sd) 5 σ).bind fun q_4 => if (q_4.1 77 13) ≤ 0 then (f_X12_named 77 q_4).bind fun q_6 => f_X12_tellOne_200 kf_F 77 q_6.1 0 q_6.2 else some q_4) (kx_tc X s D) := by
  intro σ h ⟨⟨ms, li⟩, ⟨m11, m12, m13, m14⟩, nm, m3, m4, m5, m6⟩
  obtain ⟨b1, b2, b3⟩ := hb
  have hR : σ.1 89 sd = nI (kd_nc D) := by first | exact m11 | exact m12
  obtain ⟨τ1, a1, a2, a3⟩ := kM_room (n := kd_nc D) (M := 5) h z0 (by omega) (by omega) (by decide)
  rw [hK] at a2
  dsimp only
  rw [hR, show f_X12_roomFor 77 (nI (kd_nc D)) 5 σ = some τ1 from a1, Option.bind_some]
  unfold kx_tc
  by_cases c : kd_nc D < 5
  · rw [if_pos c] at a2 ⊢
    dsimp only
    have f2 := a2.1.2
    by_cases z : (kx_tk X 257 s).2 = 0
    · rw [a2.2.2.1, if_pos (show nI _ ≤ 0 by rw [z]; exact Int32.le_refl _)]
      obtain ⟨y1, y2, y3, y4⟩ := kx_tk_0 z
      have es : (kx_tk X 257 s).1 = s.1 + 1 := by rw [y4]
      obtain ⟨τ2, u1, u2, u3, u4⟩ := kM_named (D := D) hX a2 z ⟨b1, b2, b3⟩ (nm.fr a3 (by unfold kx_mT; omega) (fun b => by unfold kx_mT; omega) (fun b q => q)) (ms.m a3 ⟨by unfold kx_mT; omega, by unfold kx_mT; omega⟩) (li.le (by omega))
      rw [u1, Option.bind_some]
      have r19 : τ2.1 77 19 = nI sd := (u3.1 77 19 (by unfold kx_nP; omega)).trans ((a3.1 77 19 (by unfold kx_mT; omega)).trans m14)
      have rR : τ2.1 89 sd = nI (kd_nc D) := (u3.1 89 sd (by unfold kx_nP; omega)).trans ((a3.1 89 sd (by unfold kx_mT; omega)).trans hR)
      rw [← show kx_c1 X s = kx_tk X 2 (kx_tk X 257 s) from rfl] at u2 u4
      have ed : (kx_c1 X s).2 = 0 → kx_K X (kx_tk X 257 s).1 = 2 ∧ (kx_c1 X s).1 = (kx_tk X 257 s).1 + 1 := fun q => by
        rw [show kx_c1 X s = kx_tk X 2 (kx_tk X 257 s) from rfl] at q ⊢
        exact ⟨(kx_tk_0 q).2.1, by rw [(kx_tk_0 q).2.2.2]⟩
      obtain ⟨τ3, v1, v2, v3, v4⟩ := kM_fl200 (tk := nI (kx_tk X 257 s).1) (n := kd_nc D) hX hs (by omega) 4 0 rfl kf_F (kf_F_gt (by decide)) (kx_c1 X s) τ2 u2 r19 rR
      have t30 := kx_t3_0 (X := X) 4 (kx_c1 X s)
      have n40 := kx_n4_0 (X := X) (lo := 0) (hi := 99) 4 (kx_c1 X s) (kx_l3 X D (kx_tk X 257 s))
      generalize hs5 : kx_t3 X 4 (kx_c1 X s) = s5 at *
      generalize hl5 : kx_n4 X 0 99 4 (kx_c1 X s) (kx_l3 X D (kx_tk X 257 s)) = l5 at *
      have v3 : kx_fr (kx_fM 90 (20 * sd + 4 * kd_nc D) (20 * sd + 4 * kd_nc D + 4)) kx_n0 τ2 τ3 := v3
      have s20 : τ3.1 77 20 = nI (kd_nd D + kd_nc D) := (v3.1 77 20 (by unfold kx_fM kx_nP; omega)).trans ((u3.1 77 20 (by unfold kx_nP; omega)).trans ((a3.1 77 20 (by unfold kx_mT; omega)).trans nm.1))
      obtain ⟨τ4, w1, w2, w3, w4⟩ := kM_en200 (f := kf_F - 5) (n := kd_nc D) (N := kd_nd D + kd_nc D) (tok := (kx_tk X 257 s).1) hs v2 ((v3.1 77 19 (by unfold kx_fM kx_nP; omega)).trans r19) ((v3.1 89 sd (by unfold kx_fM kx_nP; omega)).trans rR) (by omega) (by omega) s20 a2.1.1
      have A3 : kx_fr (fun a b => kx_fM 90 (20 * sd + 4 * kd_nc D) (20 * sd + 4 * kd_nc D + 4) a b ∨ (a = 77 ∧ b = 20) ∨ (a = 86 ∧ b = kd_nd D + kd_nc D) ∨ (a = 89 ∧ b = sd)) (fun a b => a = 85 ∧ b = kd_nd D + kd_nc D) σ τ4 := (((a3.mono (fun a b q => Or.inl (Or.inl (by unfold kx_mT at q; unfold kx_nP; omega))) (fun _ _ q => q.elim)).tr (u3.mono (fun a b q => Or.inl (Or.inl q)) (fun _ _ q => q.elim))).tr (v3.mono (fun a b q => Or.inl q) (fun _ _ q => q.elim))).tr (w3.mono (fun a b q => q.elim (fun q => Or.inl (Or.inl (by unfold kx_mT at q; unfold kx_nP; omega))) Or.inr) (fun _ _ q => q))
      refine ⟨τ4, ?_, w2, fun q => ?_, A3.mono (fun a b q => by
        rcases q with (q | q) | q | q | q
        · exact kx_tF_n q
        · exact kx_tF_90 ⟨q.1, by omega, by omega⟩
        · exact kx_tF_20 q
        · exact kx_tF_86 q.1
        · exact kx_tF_c ⟨by omega, q.2⟩) (fun a b q => q.1)⟩
      · have e5 : kf_F - 5 + 1 = kf_F - 4 := rfl
        rw [e5] at w1
        exact v1.trans w1
      · obtain ⟨p1, p2, p3, p4⟩ := w4 q
        obtain ⟨x1, x2, x3, x4⟩ := kx_tk_0 q
        obtain ⟨q1, e4⟩ := t30 x1
        obtain ⟨f1, f2⟩ := v4 x1
        obtain ⟨g1, g2⟩ := u4 q1
        obtain ⟨k2, ed⟩ := ed q1
        obtain ⟨o1, o2⟩ := f2 _ g1 (by rw [ed]; exact g2)
        rw [hl5] at o1 o2
        have fin : (kx_tk X 59 s5).1 = (kx_c1 X s).1 + 5 := by rw [x4]; show _ + 1 = _; rw [e4]
        have NN := p4 k2
        have E6 : ∀ j, j < kd_nd D + kd_nc D → τ4.1 86 j = σ.1 86 j := fun j hj => A3.1 86 j (by unfold kx_fM kx_nP; omega)
        have E5 : ∀ j, j < kd_nd D + kd_nc D → τ4.2 85 j = σ.2 85 j := fun j hj => A3.2 85 j (by omega)
        have FN : ∀ p, p < 4 → τ4.1 90 (20 * sd + 4 * kd_nc D + p) = nI (kx_N X ((kx_c1 X s).1 + p)) := fun p hp => by
          rw [w3.1 90 _ (by unfold kx_mT; omega)]
          exact f1 p hp
        have FO : ∀ d, d < kd_nc D → ∀ p, p < 4 → τ4.1 90 (20 * sd + 4 * d + p) = σ.1 90 (20 * sd + 4 * d + p) := fun d hd p hp => A3.1 90 _ (by unfold kx_fM kx_nP; omega)
        refine ⟨⟨o1.m w3 ⟨by unfold kx_mT; omega, by unfold kx_mT; omega⟩, o2.le (by rw [fin]; omega)⟩, ?_, ?_, ?_, ?_, ⟨(A3.1 96 sd (by unfold kx_fM kx_nP; omega)).trans m5.1, (A3.1 97 sd (by unfold kx_fM kx_nP; omega)).trans m5.2.1, (A3.1 98 sd (by unfold kx_fM kx_nP; omega)).trans m5.2.2⟩, m6.fr A3 (fun a b q => by unfold kx_fM kx_nP at q; omega) rfl (by rw [fin, ed]; omega)⟩
        · have o9 : τ4.1 91 sd = nI (kd_nr D) := (A3.1 91 sd (by unfold kx_fM kx_nP; omega)).trans m13
          have o19 : τ4.1 77 19 = nI sd := (A3.1 77 19 (by unfold kx_fM kx_nP; omega)).trans m14
          first
            | exact ⟨p1, (A3.1 89 sd (by unfold kx_fM kx_nP; omega)).trans m12, o9, o19⟩
            | exact ⟨(A3.1 87 sd (by unfold kx_fM kx_nP; omega)).trans m11, p1, o9, o19⟩
        · have cN : kd_nd D + kd_nc D + 1 = kd_nd D + 1 + kd_nc D := by omega
          have cN2 : kd_nd D + kd_nc D + 1 = kd_nd D + (kd_nc D + 1) := by omega
          have al : ∀ j, j < kd_nd D + kd_nc D + 1 → ∃ a, a < 20 ∧ τ4.1 86 j = nI a := fun j hj => by
            by_cases e : j = kd_nd D + kd_nc D
            · exact ⟨10 + kd_nc D, by omega, by rw [e]; exact p3⟩
            · obtain ⟨a, x, y⟩ := nm.2.1 j (by omega)
              exact ⟨a, x, (E6 j (by omega)).trans y⟩
          first
            | exact (by
                have A := kx_so_new (v := kx_V X (kx_tk X 257 s).1) nm.2.2.1 (by omega) rfl (by decide) E6 E5 p3 NN
                have B := kx_so_old nm.2.2.2 (by decide) ⟨by omega, by omega⟩ E6 E5 p3
                rw [cN] at A B al p2
                exact ⟨p2, al, A, B⟩)
            | exact (by
                have A := kx_so_new (v := kx_V X (kx_tk X 257 s).1) nm.2.2.2 (by omega) rfl (by decide) E6 E5 p3 NN
                have B := kx_so_old nm.2.2.1 (by decide) ⟨by omega, by omega⟩ E6 E5 p3
                rw [cN2] at A B al p2
                exact ⟨p2, al, B, A⟩)
        · have nx : ∀ g : Nat → Nat → Int32, (∀ d, d < kd_nc D → ∀ p, p < 4 → σ.1 90 (20 * sd + 4 * d + p) = g d p) → ∀ d, d < kd_nc D + 1 → ∀ p, p < 4 → τ4.1 90 (20 * sd + 4 * d + p) = kx_up g (kd_nc D) (kx_fc X (kx_c1 X s)) d p := fun g hg d hd p hp => by
            by_cases e : d = kd_nc D
            · rw [e, kx_up_s, FN p hp]
              rfl
            · rw [kx_up_o e, FO d (by omega) p hp, hg d (by omega) p hp]
          first
            | exact ⟨nx _ m3.1, fun c hc p hp => (A3.1 90 _ (by unfold kx_fM kx_nP; omega)).trans (m3.2 c hc p hp)⟩
            | exact ⟨fun c hc p hp => (A3.1 88 _ (by unfold kx_fM kx_nP; omega)).trans (m3.1 c hc p hp), nx _ m3.2⟩
        · intro ql
          have q0 : (kd_sl D).1 = 0 := kx_l3_0 (n40 ql).1
          intro r hr
          obtain ⟨r1, r2, r3, r4⟩ := m4 q0 r hr
          exact ⟨(A3.1 92 _ (by unfold kx_fM kx_nP; omega)).trans r1, (A3.1 93 _ (by unfold kx_fM kx_nP; omega)).trans r2, (A3.1 94 _ (by unfold kx_fM kx_nP; omega)).trans r3, (A3.1 95 _ (by unfold kx_fM kx_nP; omega)).trans r4⟩
    · rw [a2.2.2.1, if_neg (nI_nle (by omega) (by omega))]
      have e1 : kx_c1 X s = kx_tk X 257 s := kx_tk_f z
      rw [e1, kx_t3_f 4 _ z, kx_tk_f z]
      exact ⟨τ1, rfl, a2, fun q => absurd q z, a3.mono (fun a b q => kx_tF_m q) (fun _ _ q => q.elim)⟩
  · rw [if_neg c] at a2 ⊢
    rw [a2.2.2.1, if_neg (show ¬ nI 2 ≤ 0 by decide)]
    dsimp only
    rw [kx_tk_f (show (2 : Nat) ≠ 0 by decide)]
    exact ⟨τ1, rfl, a2, fun q => absurd q (by show ¬ 2 = 0; decide), a3.mono (fun a b q => kx_tF_m q) (fun _ _ q => q.elim)⟩
