/-! ===== pure: the reference reads a law (2) ===== -/
theorem kM_38 {X : kx_X} {sd c0 B i : Nat} {S : kx_sf} {s : kx_S} {cs : List kx_o} {σ : kf_St} (hs : sd < 2) (hS : kx_gd X 15 S) (hM : kx_xM X sd S) (rec : Nat → Int32 → Int32 → Int32 → kf_St → Option kf_St) (k v : Int32) (h : kx_RM X s σ) (z0 : s.2 = 0) (hK : kx_K X s.1 = 265) (hc : kx_CX sd s cs σ) (h0 : c0 ≤ 420 * sd + cs.length) (hB : σ.1 77 37 = nI B) (hB2 : B < 130 * sd + 130) : ∃ τ cs', f_X12_tellLaw_38 rec 77 k v (nI i) σ = rec 77 k v (nI (i + 1)) τ ∧ kx_RM X (kx_i4 X S s) τ ∧ kx_fr (fun a b => kx_eP sd c0 a b ∨ (a = 77 ∧ b = 37) ∨ (101 ≤ a ∧ a ≤ 105 ∧ b = B)) kx_n0 σ τ ∧ kx_CX sd (kx_i4 X S s) cs' τ ∧ τ.1 77 37 = nI (B + 1) ∧ c0 ≤ 420 * sd + cs'.length ∧ cs.length ≤ cs'.length ∧ ((kx_i4 X S s).2 = 0 → kx_mb τ sd (420 * sd + cs'.length) B (kx_ib X S s) ∧ s.1 + 7 ≤ (kx_i4 X S s).1) := by
  have gK : kx_K X s.1 ≠ 0 ∧ kx_K X s.1 ≠ 1 := by omega
  obtain ⟨τ1, a1, a2, a3⟩ := kM_gon h z0 gK
  rw [hK] at a2
  have ca := hc.tk (X := X) (d := 265) a3
  have b1 : τ1.1 77 37 = nI B := (a3.1 77 37 (by unfold kx_mT; omega)).trans hB
  have cw : kx_fr (fun a b => (a = 101 ∨ a = 102) ∧ b = B) kx_n0 τ1 (kf_wi (kf_wi τ1 101 B (vp_nar .boolean 1)) 102 B (τ1.1 77 43)) := (kx_fr.rf.wi ⟨Or.inl rfl, rfl⟩).wi ⟨Or.inr rfl, rfl⟩
  have run1 : (f_X12_expression 77 (kf_wi (kf_wi τ1 101 B (vp_nar .boolean 1)) 102 B (τ1.1 77 43))) = (f_X12_expression 77 (kf_wi (kf_wi τ1 101 B (vp_nar .boolean 1)) 102 B (τ1.1 77 43))) := rfl
  generalize hρ1 : kf_wi (kf_wi τ1 101 B (vp_nar .boolean 1)) 102 B (τ1.1 77 43) = ρ1 at cw run1
  have cw' : kx_fr (kx_rP B) kx_n0 τ1 ρ1 := cw.mono (fun a b q => by unfold kx_rP; omega) (fun _ _ q => q)
  obtain ⟨τ2, d1, d2, d3, d4, d5⟩ := kM_exG (c0 := c0) hS hM (a2.rp cw') (ca.rp cw') h0
  rw [← show kx_i1 X S s = S (kx_tk X 265 s) from rfl] at d2 d4 d5
  obtain ⟨τ3, e1, e2, e3⟩ := kM_must (k := 60) d2 rfl (by decide) (by decide)
  have ce := d4.tk (X := X) (d := 60) e3
  have b3 : τ3.1 77 37 = nI B := (e3.1 77 37 (by unfold kx_mT; omega)).trans ((d3.1 77 37 (by unfold kx_eP; omega)).trans ((cw.1 77 37 (by omega)).trans b1))
  have cv : kx_fr (fun a b => a = 103 ∧ b = B) kx_n0 τ3 (kf_wi τ3 103 B (τ3.1 77 43)) := kx_fr.rf.wi ⟨rfl, rfl⟩
  have cv' : kx_fr (kx_rP B) kx_n0 τ3 (kf_wi τ3 103 B (τ3.1 77 43)) := cv.mono (fun a b q => by unfold kx_rP; omega) (fun _ _ q => q)
  obtain ⟨τ4, f1, f2, f3, f4, f5⟩ := kM_exI (c0 := c0) hS hM (e2.rp cv') (ce.rp cv') (by rw [List.length_append]; omega)
  rw [← show kx_i2 X S s = S (kx_tk X 60 (kx_i1 X S s).1) from rfl] at f2 f4 f5
  obtain ⟨τ5, g1, g2, g3⟩ := kM_must (k := 266) f2 rfl (by decide) (by decide)
  have cg := f4.tk (X := X) (d := 266) g3
  have b5 : τ5.1 77 37 = nI B := (g3.1 77 37 (by unfold kx_mT; omega)).trans ((f3.1 77 37 (by unfold kx_eP; omega)).trans ((cv.1 77 37 (by omega)).trans b3))
  obtain ⟨τ6, i1, i2, i3, i4, i5, i6⟩ := kM_term (c0 := c0) hS hM g2 cg (by rw [List.length_append, List.length_append]; omega) b5 (by omega)
  rw [← show kx_i3 X S s = S (kx_tk X 266 (kx_i2 X S s).1) from rfl] at i2 i4 i6
  obtain ⟨τ7, j1, j2, j3⟩ := kM_must (k := 267) i2 rfl (by decide) (by decide)
  have cj := i4.tk (X := X) (d := 267) j3
  rw [← show kx_i4 X S s = kx_tk X 267 (kx_i3 X S s).1 from rfl] at j2 cj
  have FR : kx_fr (fun a b => kx_eP sd c0 a b ∨ (a = 77 ∧ b = 37) ∨ (101 ≤ a ∧ a ≤ 105 ∧ b = B)) kx_n0 σ τ7 := by
    have P1 : ∀ {α β : kf_St}, kx_fr kx_mT kx_n0 α β → kx_fr (fun a b => kx_eP sd c0 a b ∨ (a = 77 ∧ b = 37) ∨ (101 ≤ a ∧ a ≤ 105 ∧ b = B)) kx_n0 α β := fun q => q.mono (fun a b q => Or.inl (by unfold kx_mT at q; unfold kx_eP; omega)) (fun _ _ q => q)
    have P2 : ∀ {α β : kf_St}, kx_fr (kx_eP sd c0) kx_n0 α β → kx_fr (fun a b => kx_eP sd c0 a b ∨ (a = 77 ∧ b = 37) ∨ (101 ≤ a ∧ a ≤ 105 ∧ b = B)) kx_n0 α β := fun q => q.mono (fun a b q => Or.inl q) (fun _ _ q => q)
    have P3 : ∀ {α β : kf_St}, kx_fr (kx_rP B) kx_n0 α β → kx_fr (fun a b => kx_eP sd c0 a b ∨ (a = 77 ∧ b = 37) ∨ (101 ≤ a ∧ a ≤ 105 ∧ b = B)) kx_n0 α β := fun q => q.mono (fun a b q => Or.inr (Or.inr q)) (fun _ _ q => q)
    exact (((((((P1 a3).tr (P3 cw')).tr (P2 d3)).tr (P1 e3)).tr (P3 cv')).tr (P2 f3)).tr (P1 g3)).tr ((i3.mono (fun a b q => q.elim Or.inl (fun q => Or.inr (q.elim Or.inl (fun q => Or.inr (by omega))))) (fun _ _ q => q)).tr (P1 j3))
  refine ⟨τ7, cs ++ (kx_i1 X S s).2 ++ (kx_i2 X S s).2 ++ (kx_i3 X S s).2, ?_, j2, FR, cj, (j3.1 77 37 (by unfold kx_mT; omega)).trans i5, by simp only [List.length_append]; omega, by simp only [List.length_append]; omega, fun q => ?_⟩
  · unfold f_X12_tellLaw_38
    simp only [kz_lt]
    rw [h.2.2.1, if_pos (show nI s.2 ≤ 0 by rw [z0]; exact Int32.le_refl _), a1, Option.bind_some, nI_1, b1, kr77_38, kl101, if_pos (kf_ixN (by omega) (by decide)), nI_clamp (by omega), kp_wi_row (by decide), b1, kr77_39, kl102, if_pos (kf_ixN (by omega) (by decide)), kp_wi_row (by decide), nI_clamp (by omega), hρ1, d1, Option.bind_some, show f_X12_must 77 13 τ2 = some τ3 from e1, Option.bind_some, b3, kr77_40, kl103, if_pos (kf_ixN (by omega) (by decide)), nI_clamp (by omega)]
    refine (f1 (fun q => f_X12_tellLaw_110 rec 77 k v (nI (i + 1)) q)).trans ?_
    unfold f_X12_tellLaw_110
    rw [show f_X12_must 77 30 τ4 = some τ5 from g1, Option.bind_some, i1, Option.bind_some, show f_X12_must 77 31 τ6 = some τ7 from j1, Option.bind_some]
  · rw [show kx_i4 X S s = kx_tk X 267 (kx_i3 X S s).1 from rfl] at q
    obtain ⟨y1, y2, y3, y4⟩ := kx_tk_0 q
    obtain ⟨x1, x2, x3⟩ := i6 y1
    obtain ⟨w1, w2, w3, w4⟩ := kx_tk_0 x1
    have u1 := f5 w1
    obtain ⟨v1, v2, v3, v4⟩ := kx_tk_0 u1
    have t1 := d5 v1
    obtain ⟨p1, p2, p3, p4⟩ := kx_tk_0 t1
    have G1 := kx_gd1 hS a2.1
    rw [← show kx_i1 X S s = S (kx_tk X 265 s) from rfl] at G1
    have G2 := kx_gd1 hS e2.1
    rw [← show kx_i2 X S s = S (kx_tk X 60 (kx_i1 X S s).1) from rfl] at G2
    have G3 := kx_gd1 hS g2.1
    rw [← show kx_i3 X S s = S (kx_tk X 266 (kx_i2 X S s).1) from rfl] at G3
    have l1 := (G1.2.2 v1).2.1
    have l2 := (G2.2.2 w1).2.1
    have l3 := (G3.2.2 y1).2.1
    have e265 : (kx_tk X 265 s).1 = s.1 + 1 := by rw [p4]
    have e60 : (kx_tk X 60 (kx_i1 X S s).1).1 = (kx_i1 X S s).1.1 + 1 := by rw [v4]
    have e266 : (kx_tk X 266 (kx_i2 X S s).1).1 = (kx_i2 X S s).1.1 + 1 := by rw [w4]
    have e267 : (kx_tk X 267 (kx_i3 X S s).1).1 = (kx_i3 X S s).1.1 + 1 := by rw [y4]
    obtain ⟨⟨n1, n2⟩, n3, n4⟩ := cj q
    refine ⟨?_, by rw [show kx_i4 X S s = kx_tk X 267 (kx_i3 X S s).1 from rfl, e267]; omega⟩
    have m1 := ((kx_ma_app _ _ _).mp n2)
    have m2 := ((kx_ma_app _ _ _).mp m1.1)
    have m3 := ((kx_ma_app _ _ _).mp m2.1)
    rw [show kx_ib X S s = ((kx_i1 X S s).2, (kx_i2 X S s).2, (kx_i3 X S s).2) from rfl]
    generalize hL1 : (kx_i1 X S s).2 = L1 at *
    generalize hL2 : (kx_i2 X S s).2 = L2 at *
    generalize hL3 : (kx_i3 X S s).2 = L3 at *
    have k43 : τ1.1 77 43 = nI (420 * sd + cs.length) := (ca t1).1.1
    have k43b : τ3.1 77 43 = nI (420 * sd + (cs ++ L1).length) := (ce u1).1.1
    refine ⟨420 * sd + cs.length, by omega, ?_, ?_, ?_, ?_, ?_, ?_, m3.2, ?_, ?_⟩
    · show 420 * sd + cs.length + L1.length + L2.length + L3.length ≤ 420 * sd + (cs ++ L1 ++ L2 ++ L3).length
      simp only [List.length_append]; omega
    · rw [j3.1 101 B (by unfold kx_mT; omega), i3.1 101 B (by unfold kx_eP; omega), g3.1 101 B (by unfold kx_mT; omega), f3.1 101 B (by unfold kx_eP; omega), cv.1 101 B (by omega), e3.1 101 B (by unfold kx_mT; omega), d3.1 101 B (by unfold kx_eP; omega), ← hρ1, kp_wi_row (by decide), kp_wi_same]
      rfl
    · rw [j3.1 102 B (by unfold kx_mT; omega), i3.1 102 B (by unfold kx_eP; omega), g3.1 102 B (by unfold kx_mT; omega), f3.1 102 B (by unfold kx_eP; omega), cv.1 102 B (by omega), e3.1 102 B (by unfold kx_mT; omega), d3.1 102 B (by unfold kx_eP; omega), ← hρ1, kp_wi_same, k43]
    · rw [j3.1 103 B (by unfold kx_mT; omega), i3.1 103 B (by unfold kx_eP; omega), g3.1 103 B (by unfold kx_mT; omega), f3.1 103 B (by unfold kx_eP; omega), kp_wi_same, k43b, List.length_append, Nat.add_assoc]
    · rw [j3.1 104 B (by unfold kx_mT; omega), x2]
      simp only [List.length_append, Nat.add_assoc]
    · rw [j3.1 105 B (by unfold kx_mT; omega), x3]
      simp only [List.length_append, Nat.add_assoc]
    · have := m2.2
      rw [List.length_append, ← Nat.add_assoc] at this
      exact this
    · have := m1.2
      rw [List.length_append, List.length_append, ← Nat.add_assoc, ← Nat.add_assoc] at this
      exact this
