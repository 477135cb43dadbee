/-! ===== pure: read, second side ===== -/
theorem kM_219 (σ : kf_St) : ∃ τ, f_X12_read_219 kf_F 77 0 σ = some (0, τ) ∧ kx_fr (fun a _ => a = 120) kx_n0 σ τ ∧ ∀ s, s < 3 → τ.1 120 s = 0 := by
  have main := kp_run (n := 3) (fun j f => ∀ τ, kx_fr (fun a _ => a = 120) kx_n0 σ τ → (∀ k, k < j → τ.1 120 k = 0) → ∃ τ', f_X12_read_219 f 77 (nI j) τ = some (0, τ') ∧ kx_fr (fun a _ => a = 120) kx_n0 σ τ' ∧ ∀ s, s < 3 → τ'.1 120 s = 0) (by decide) (fun f τ c hk => ?_) (fun j hj f ih τ c hk => ?_)
  · exact main σ kx_fr.rf (fun k hk => absurd hk (Nat.not_lt_zero k))
  · refine ⟨τ, ?_, c, hk⟩
    show f_X12_read_219_s _ 77 (nI 3) τ = _
    unfold f_X12_read_219_s
    rw [if_pos (by decide)]
  · obtain ⟨τ', r1, r2⟩ := ih (kf_wi τ 120 j (vp_nar .boolean 0)) (c.wi (P := fun a _ => a = 120) rfl) (fun k hk2 => by
      by_cases e : k = j
      · rw [e, kp_wi_same]; rfl
      · rw [kp_wi_ne (by omega)]; exact hk k (by omega))
    refine ⟨τ', ?_, r2⟩
    show f_X12_read_219_s _ 77 (nI j) τ = _
    unfold f_X12_read_219_s
    simp only [kz_lt]
    rw [if_neg (show ¬ (3 : Int32) ≤ nI j from nI_ge (b := 3) (by omega) (by decide)), kr77_64, kl120, if_pos (kf_ixN (by omega) (by decide)), nI_clamp (by omega), nI_1]
    exact r1
theorem kx_gF_7 {sd b : Nat} (h : b = 17 ∨ b = 18 ∨ 48 ≤ b) : ¬ kx_gF sd 77 b := by
  rintro (q | q | q)
  · unfold kx_tF at q; omega
  · omega
  · omega
theorem kx_gF_hi {sd a b : Nat} (h : a = 78 ∨ a = 84 ∨ 109 ≤ a ∨ a < 77) : ¬ kx_gF sd a b := by
  rintro (q | q | q)
  · unfold kx_tF at q; omega
  · omega
  · omega
theorem kx_gF_s {lv a b : Nat} (hl : lv < 2) (h : ((a = 87 ∨ a = 89 ∨ a = 91 ∨ a = 96 ∨ a = 97 ∨ a = 98) ∧ b = lv) ∨ (a = 88 ∧ 24 * lv ≤ b ∧ b < 24 * lv + 24) ∨ (a = 90 ∧ 20 * lv ≤ b ∧ b < 20 * lv + 20) ∨ (92 ≤ a ∧ a ≤ 95 ∧ 10 * lv ≤ b ∧ b < 10 * lv + 10) ∨ ((a = 99 ∨ a = 100) ∧ 3 * lv ≤ b ∧ b < 3 * lv + 3) ∨ (101 ≤ a ∧ a ≤ 105 ∧ 130 * lv ≤ b ∧ b < 130 * lv + 130) ∨ ((a = 106 ∨ a = 107) ∧ 420 * lv ≤ b ∧ b < 420 * lv + 420)) : ¬ kx_gF (1 - lv) a b := by
  have : lv = 0 ∨ lv = 1 := by omega
  rcases this with rfl | rfl
  · rintro (q | q | q)
    · rcases h with h | h | h | h | h | h | h <;> (unfold kx_tF at q; omega)
    · omega
    · omega
  · rintro (q | q | q)
    · rcases h with h | h | h | h | h | h | h <;> (unfold kx_tF at q; omega)
    · omega
    · omega
theorem kp_MT.gF {T : kp_T} {lv : Nat} {σ τ : kf_St} (hT : kp_Tok T) (h : kp_MT T lv σ) (c : kx_fr (kx_gF (1 - lv)) kx_gG σ τ) : kp_MT T lv τ := by
  obtain ⟨h0, h1, ⟨h2, h3, h4⟩, ⟨h5, h6, h7⟩, h8, h9, h10, h11, h12, h13⟩ := h
  obtain ⟨n1, n2, n3⟩ := hT.1
  have e18 : τ.1 77 18 = σ.1 77 18 := c.1 77 18 (kx_gF_7 (by omega))
  have s : ∀ a b, _ → τ.1 a b = σ.1 a b := fun a b hh => c.1 a b (kx_gF_s h0 hh)
  have ag : kp_ag lv σ τ := ⟨fun r hr j x y => s r j (by omega), fun r a b j x y => s r j (by omega), fun r hr j x y => s r j (by omega)⟩
  have lm : ∀ {k pl L}, kp_LM k pl L lv σ → kp_LM k pl L lv τ := fun hL σ' a e => hL σ' (ag.tr a) (e.trans e18)
  exact ⟨h0, e18.trans h1, ⟨(s 87 lv (by omega)).trans h2, (s 89 lv (by omega)).trans h3, (s 91 lv (by omega)).trans h4⟩, ⟨(s 96 lv (by omega)).trans h5, (s 97 lv (by omega)).trans h6, (s 98 lv (by omega)).trans h7⟩, fun d hd p hp => (s 88 _ (by omega)).trans (h8 d hd p hp), fun d hd p hp => (s 90 _ (by omega)).trans (h9 d hd p hp), fun r hr => ⟨(s 92 _ (by omega)).trans (h10 r hr).1, (s 93 _ (by omega)).trans (h10 r hr).2.1, (s 94 _ (by omega)).trans (h10 r hr).2.2.1, (s 95 _ (by omega)).trans (h10 r hr).2.2.2⟩, lm h11, lm h12, lm h13⟩
set_option maxHeartbeats 400000 in
theorem kM_read {A : kp_A} {k : Nat} {S : kx_sf} {σ : kf_St} (hA : kp_Aok A k) (hS : kx_gd (kx_Xa A) 15 S) (hM : ∀ sd, sd < 2 → kx_xM (kx_Xa A) sd S) (h : kp_Mr A σ) : ((kx_an (kx_Xa A) (kx_all (kx_Xa A) S)).1 ≠ 0 → ∃ τ, f_X12_read 77 σ = some (nI (kx_an (kx_Xa A) (kx_all (kx_Xa A) S)).1, τ) ∧ kp_frM σ τ ∧ kp_Mr (kx_A1 A (kx_an (kx_Xa A) (kx_all (kx_Xa A) S)).2) τ) ∧ ((kx_an (kx_Xa A) (kx_all (kx_Xa A) S)).1 = 0 → ∃ τ, f_X12_read 77 σ = some (0, τ) ∧ kp_frM σ τ ∧ kp_Mr (kx_A2 A (kx_all (kx_Xa A) S).2) τ) := by
  obtain ⟨⟨lv, h1⟩, h2, h3, h4, h5, ⟨h6, h7⟩, h8, h9⟩ := h
  have hl := h1.1
  obtain ⟨τ1, a1, a2, a3, a4, a5, a6⟩ := kM_whole (X := kx_Xa A) (S := S) (lv := lv) (σ := σ) hA.2.2.2.2.2 hl hS (hM (1 - lv) (by omega)) h6 (fun i hi => by rw [h7 i hi]; exact kx_and255 _) (fun i => Nat.mod_lt _ (by decide)) h9 h1.2.1
  generalize hr : kx_all (kx_Xa A) S = r at *
  generalize hX : kx_Xa A = X at *
  have f2 := a2.1.2
  have hi : ∀ {a : Nat}, (a = 78 ∨ a = 84 ∨ 109 ≤ a ∨ a < 77) → τ1.1 a = σ.1 a := fun ha => a4.row (fun b => kx_gF_hi ha)
  have hi2 : ∀ {a : Nat}, (a = 84 ∨ a < 77) → τ1.2 a = σ.2 a := fun ha => a4.rowl (fun b q => by unfold kx_gG at q; omega)
  have bad : ∀ p : Int32, kp_frM σ (kf_wi τ1 77 17 p) ∧ kp_Mr (kx_A1 A p) (kf_wi τ1 77 17 p) := by
    intro p
    have w : kx_fr (fun a b => a = 77 ∧ b = 17) kx_n0 τ1 (kf_wi τ1 77 17 p) := kx_fr.rf.wi ⟨rfl, rfl⟩
    have o : ∀ a, a ≠ 77 → (kf_wi τ1 77 17 p).1 a = τ1.1 a := fun a ha => w.row (fun b => by omega)
    have o7 : ∀ b, 48 ≤ b → (kf_wi τ1 77 17 p).1 77 b = σ.1 77 b := fun b hb => (w.1 77 b (by omega)).trans (a4.1 77 b (kx_gF_7 (by omega)))
    refine ⟨fun r hr => ⟨(o r (by omega)).trans (hi (by omega)), hi2 (by omega)⟩, ⟨lv, (h1.gF hA.1 a4).ch (fun r x y => o r (by omega)) (w.1 77 18 (by omega))⟩, ?_, h3.ch (o7 56 (by decide)) ((o 114 (by decide)).trans (hi (by omega))), h4.ch ((o 120 (by decide)).trans (hi (by omega))) ((o 121 (by decide)).trans (hi (by omega))), ?_, ⟨(w.1 77 2 (by omega)).trans a5, fun i hi => absurd hi (Nat.not_lt_zero i)⟩, kp_wi_same _ _ _ _, fun i hi3 => ?_⟩
    · rw [(o 111 (by decide)).trans (hi (by omega))]; exact h2
    · rw [o7 60 (by decide), (o 117 (by decide)).trans (hi (by omega)), (o 118 (by decide)).trans (hi (by omega)), (o 119 (by decide)).trans (hi (by omega))]; exact h5
    · rw [kp_wi_2, hi2 (by omega)]; exact h9 i hi3
  have run : f_X12_read 77 σ = f_X12_read_134 77 τ1 := a1
  refine ⟨fun ne => ?_, fun z => ?_⟩
  · by_cases c : r.1.2 = 0
    · have ea : kx_an X r = kd_sl r.2 := by unfold kx_an; rw [if_pos c]
      rw [ea] at ne ⊢
      obtain ⟨dm, di⟩ := a3 c
      obtain ⟨⟨m1, m2, m3⟩, -⟩ := dm.1
      refine ⟨_, ?_, bad (kd_sl r.2).2⟩
      rw [run]
      unfold f_X12_read_134 f_X12_read_164
      simp only [kz_lt]
      rw [a2.2.2.1, if_pos (show nI r.1.2 ≤ 0 by rw [c]; exact Int32.le_refl _), m1, if_neg (nI_nle (by omega) (by omega)), m2 ne, kp_wi_ne (by omega), a2.2.2.1, if_pos (show nI r.1.2 ≤ 0 by rw [c]; exact Int32.le_refl _), kp_wi_ne (by omega), m1, if_neg (nI_nle (by omega) (by omega))]
    · have ea : kx_an X r = (r.1.2, nI (kx_P X r.1.1)) := by unfold kx_an; rw [if_neg c]
      rw [ea] at ne ⊢
      refine ⟨_, ?_, bad (nI (kx_P X r.1.1))⟩
      rw [run]
      unfold f_X12_read_134 f_X12_read_164
      simp only [kz_lt]
      rw [a2.2.2.1, if_neg (nI_nle (by omega) (by omega)), a2.2.2.2.2 c, kp_wi_ne (by omega), a2.2.2.1, if_neg (nI_nle (by omega) (by omega))]
  · obtain ⟨z1, z2, z3⟩ := kx_an0 z
    obtain ⟨⟨⟨⟨m1, m2, m3⟩, -⟩, ⟨n1, n2, n3, n4⟩, nm, p3, p4, p5, p6⟩, di⟩ := a3 z1
    obtain ⟨k1, dk⟩ := di.2.2 z2
    obtain ⟨b1, b2, b3⟩ := di.1
    have p4 := p4 z2
    generalize hsd : 1 - lv = sd at *
    have hs : sd < 2 := by omega
    have w1 : kx_fr (fun a b => a = 77 ∧ (b = 17 ∨ b = 18)) kx_n0 τ1 (kf_wi (kf_wi τ1 77 17 (-1)) 77 18 (nI sd)) := (kx_fr.rf.wi ⟨rfl, by omega⟩).wi ⟨rfl, by omega⟩
    have v1 : (kf_wi (kf_wi τ1 77 17 (-1)) 77 18 (nI sd)).1 77 17 = -1 ∧ (kf_wi (kf_wi τ1 77 17 (-1)) 77 18 (nI sd)).1 77 18 = nI sd := ⟨(kp_wi_ne (by omega)).trans (kp_wi_same _ _ _ _), kp_wi_same _ _ _ _⟩
    generalize hρ1 : kf_wi (kf_wi τ1 77 17 (-1)) 77 18 (nI sd) = ρ1 at w1 v1
    obtain ⟨τ2, c1, c2, c3⟩ := kM_beg (σ := ρ1) (nd := kd_nd r.2) (nr := kd_nr r.2) hs v1.2 ((w1.1 87 sd (by omega)).trans n1) ((w1.1 91 sd (by omega)).trans n3) b1 b3
    obtain ⟨τ3, d1, d2, d3⟩ := kp_keepsRow τ2
    have w4 : kx_fr (fun a b => a = 77 ∧ (b = 56 ∨ b = 60)) kx_n0 τ3 (kf_wi (kf_wi τ3 77 56 0) 77 60 0) := (kx_fr.rf.wi ⟨rfl, by omega⟩).wi ⟨rfl, by omega⟩
    have v4 : (kf_wi (kf_wi τ3 77 56 0) 77 60 0).1 77 56 = 0 ∧ (kf_wi (kf_wi τ3 77 56 0) 77 60 0).1 77 60 = 0 := ⟨(kp_wi_ne (by omega)).trans (kp_wi_same _ _ _ _), kp_wi_same _ _ _ _⟩
    generalize hρ4 : kf_wi (kf_wi τ3 77 56 0) 77 60 0 = ρ4 at w4 v4
    obtain ⟨τ5, e1, e2, e3⟩ := kM_219 ρ4
    have o : ∀ a, a ≠ 77 → a ≠ 111 → a ≠ 112 → a ≠ 120 → τ5.1 a = τ1.1 a := fun a q1 q2 q3 q4 => (e2.row (fun b => by omega)).trans ((w4.row (fun b => by omega)).trans ((d2.1 a (by omega) q1).trans ((c2.row (fun b => by omega)).trans (w1.row (fun b => by omega)))))
    have ol : τ5.2 = τ1.2 := by
      funext a b
      rw [e2.2 a b (fun q => q), w4.2 a b (fun q => q), d2.2.2, c2.2 a b (fun q => q), w1.2 a b (fun q => q)]
    have o7 : ∀ b, b ≠ 53 → b ≠ 54 → b ≠ 56 → b ≠ 60 → τ5.1 77 b = ρ1.1 77 b := fun b q1 q2 q3 q4 => (e2.1 77 b (by omega)).trans ((w4.1 77 b (by omega)).trans ((d2.2.1 b (fun q => q)).trans (c2.1 77 b (by omega))))
    have oo : ∀ a b, a ≠ 77 → a ≠ 111 → a ≠ 112 → a ≠ 120 → τ5.1 a b = τ1.1 a b := fun a b q1 q2 q3 q4 => congrFun (o a q1 q2 q3 q4) b
    obtain ⟨cs, nb, ⟨s1, s2, s3⟩, s4, s5, s6, s7, s8⟩ := p6
    have t4 := a2.1.1.1
    have l18 : τ5.1 77 18 = nI sd := (o7 18 (by decide) (by decide) (by decide) (by decide)).trans v1.2
    have mo : ∀ {kk oo2}, kx_MO kk oo2 sd (420 * sd + cs.length) (130 * sd + nb) τ1 → kx_MO kk oo2 sd (420 * sd + cs.length) (130 * sd + nb) τ5 := fun hh => kx_MO_ag (oo 99 _ (by decide) (by decide) (by decide) (by decide)) (oo 100 _ (by decide) (by decide) (by decide) (by decide)) ⟨fun r x y j _ _ => oo r j (by omega) (by omega) (by omega) (by omega), fun r x j _ _ => oo r j (by omega) (by omega) (by omega) (by omega)⟩ hh
    refine ⟨τ5, ?_, fun r hr => ⟨(o r (by omega) (by omega) (by omega) (by omega)).trans (hi (by omega)), by rw [ol]; exact hi2 (by omega)⟩, ⟨sd, hs, l18, ⟨(oo 87 sd (by decide) (by decide) (by decide) (by decide)).trans n1, (oo 89 sd (by decide) (by decide) (by decide) (by decide)).trans n2, (oo 91 sd (by decide) (by decide) (by decide) (by decide)).trans n3⟩, ⟨(oo 96 sd (by decide) (by decide) (by decide) (by decide)).trans p5.1, (oo 97 sd (by decide) (by decide) (by decide) (by decide)).trans p5.2.1, (oo 98 sd (by decide) (by decide) (by decide) (by decide)).trans p5.2.2⟩, fun d hd p hp => (oo 88 _ (by decide) (by decide) (by decide) (by decide)).trans (p3.1 d hd p hp), fun d hd p hp => (oo 90 _ (by decide) (by decide) (by decide) (by decide)).trans (p3.2 d hd p hp), fun r hr => ⟨(oo 92 _ (by decide) (by decide) (by decide) (by decide)).trans (p4 r hr).1, (oo 93 _ (by decide) (by decide) (by decide) (by decide)).trans (p4 r hr).2.1, (oo 94 _ (by decide) (by decide) (by decide) (by decide)).trans (p4 r hr).2.2.1, (oo 95 _ (by decide) (by decide) (by decide) (by decide)).trans (p4 r hr).2.2.2⟩, kM_law (d := 1) (by decide) hs (by omega) (by omega) l18 di.2.1.1 (mo s6), kM_law (d := 0) (by decide) hs (by omega) (by omega) l18 di.2.1.2.1 (mo s7), kM_law (d := 1) (by decide) hs (by omega) (by omega) l18 di.2.1.2.2 (mo s8)⟩, ?_, ?_, ?_, ?_, ?_, (o7 17 (by decide) (by decide) (by decide) (by decide)).trans v1.1, fun i hi3 => ?_⟩
    · rw [run]
      unfold f_X12_read_134 f_X12_read_164
      simp only [kz_lt]
      rw [a2.2.2.1, z1, if_pos (show nI 0 ≤ 0 from Int32.le_refl _), m1, z2, if_pos (show nI 0 ≤ 0 from Int32.le_refl _), kp_wi_ne (by omega), a2.2.2.1, z1, if_pos (show nI 0 ≤ 0 from Int32.le_refl _), kp_wi_ne (by omega), m1, z2, if_pos (show nI 0 ≤ 0 from Int32.le_refl _), kp_wi_ne (by omega), a6, hρ1, c1, Option.bind_some, d1, Option.bind_some, hρ4, e1]
    · have g : ∀ j, j < 70 → τ5.1 111 j = kx_r0 (kd_nd r.2) (kd_nr r.2) (fun j => ρ1.1 88 (24 * sd + j)) j := fun j hj => (e2.1 111 j (by omega)).trans ((w4.1 111 j (by omega)).trans ((d3 j hj).trans (c3 j hj)))
      refine kx_fS0 b1 b3 g (fun d hd p hp => ?_)
      show ρ1.1 88 (24 * sd + (4 * d + p)) = _
      rw [w1.1 88 _ (by omega), ← Nat.add_assoc]
      exact p3.1 d hd p hp
    · exact ⟨Nat.zero_le _, (e2.1 77 56 (by omega)).trans v4.1, fun i hi => absurd hi (Nat.not_lt_zero i)⟩
    · exact fun s hs3 => Or.inl ⟨rfl, e3 s hs3⟩
    · exact ⟨(e2.1 77 60 (by omega)).trans v4.2, fun i hi => absurd hi (Nat.not_lt_zero i)⟩
    · exact ⟨(o7 2 (by decide) (by decide) (by decide) (by decide)).trans ((w1.1 77 2 (by omega)).trans a5), fun i hi => absurd hi (Nat.not_lt_zero i)⟩
    · rw [ol, hi2 (by omega)]; exact h9 i hi3
theorem ko_read {A : kp_A} {k : Nat} (hA : kp_Aok A k) (h0 : ∃ σ, kp_Cr A σ) : kp_op A k (f_X11_read 0) (f_X12_read 77) := by
  obtain ⟨S, hC, hM⟩ := kx_ex (kx_Xa A)
  by_cases z : (kx_an (kx_Xa A) (kx_all (kx_Xa A) S)).1 = 0
  · obtain ⟨σ0, hσ0⟩ := h0
    have di := ((kC_read hA hC hσ0).2 z).1
    obtain ⟨z1, z2, z3⟩ := kx_an0 z
    have dk := (di.2.2 z2).2
    exact ⟨0, kx_A2 A (kx_all (kx_Xa A) S).2, kx_A2ok di dk, fun σ h => ((kC_read hA hC h).2 z).2, fun σ h => (kM_read hA hC.1 hM h).2 z⟩
  · exact ⟨_, kx_A1 A (kx_an (kx_Xa A) (kx_all (kx_Xa A) S)).2, kx_A1ok hA _, fun σ h => (kC_read hA hC h).1 z, fun σ h => (kM_read hA hC.1 hM h).1 z⟩
