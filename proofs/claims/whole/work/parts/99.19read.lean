/-! ===== pure: read ===== -/
def kx_Xa (A : kp_A) : kx_X := (ka_l A, fun i => (ka_b A i).toBitVec.toNat % 256)
def kx_Tn (D : kx_D) : kp_T := ((kd_nd D, kd_nc D, kd_nr D), (kd_fi D, kd_lo D), (kd_rc D, kd_rd D, kd_ev D, kd_fr D), (kd_wi D, kd_ne D, kd_se D), (kx_ol 1 (kd_lg D), kx_ol 0 (kd_lw D), kx_ol 1 (kd_lp D)))
theorem kx_ol9 {d : Nat} {o : Option kx_w} (h : ∀ w, o = some w → kx_wok w) : kp_L9 (kx_ol d o) := by
  match o, h with
  | none, _ => exact fun _ _ _ => rfl
  | some w, h => exact kx_lv9 (h w rfl)
theorem kx_Tok {D : kx_D} (h : kx_Di D) (hk : kx_Dk D) : kp_Tok (kx_Tn D) := ⟨h.1, hk.1, hk.2.1, hk.2.2.1, hk.2.2.2, kx_ol9 h.2.1.1, kx_ol9 h.2.1.2.1, kx_ol9 h.2.1.2.2⟩
theorem kx_owk {d : Nat} {o : Option kx_w} (hd : d < 10) (h : ∀ w, o = some w → kx_wok w) : kx_wok (kx_ow d o) := by
  match o, h with
  | none, _ =>
    refine ⟨fun b hb => absurd hb List.not_mem_nil, fun h lim hl => ?_⟩
    show (if (0 : Nat) < 2 then _ else _)
    rw [if_pos (by decide)]
    exact ⟨by omega, by show d < 10000; omega, fun z => absurd z (by show ¬ (0 : Nat) = 1; decide), rfl⟩
  | some w, h => exact h w rfl
theorem kx_owl (d : Nat) (o : Option kx_w) : kx_lv (kx_ow d o) = kx_ol d o := by
  match o with
  | none => rfl
  | some w => rfl
theorem kx_la16 : kx_la 16 := ⟨by decide, kr16_1, kr16_2, kl17, kl18⟩
theorem kx_la19 : kx_la 19 := ⟨by decide, kr19_1, kr19_2, kl20, kl21⟩
theorem kx_la22 : kx_la 22 := ⟨by decide, kr22_1, kr22_2, kl23, kl24⟩
theorem kp_LC.ofw {a d : Nat} {o : Option kx_w} {σ : kf_St} (ha : kx_la a) (hd : d < 10) (hw : ∀ w, o = some w → kx_wok w) (h : kx_CW a (kx_ow d o) σ) : kp_LC a (kx_ol d o) σ := by
  rw [← kx_owl]
  exact kC_law ha (kx_owk hd hw) h
/-- what both readers stand on -/
theorem kx_ex (X : kx_X) : ∃ S : kx_sf, kx_sC X S ∧ ∀ sd, sd < 2 → kx_xM X sd S := ⟨kx_su X 9 0, ⟨kx_gd9 X, fun a ha => kC_sum9 ha⟩, fun sd hs => kM_expr9 X hs⟩
def kx_A1 (A : kp_A) (p : Int32) : kp_A := (ka_T A, ka_S A, A.2.2.1, ka_Q A, A.2.2.2.2.1, (0, ka_b A), p)
def kx_A2 (A : kp_A) (D : kx_D) : kp_A := (kx_Tn D, kx_S0 (kd_nd D) (kd_nr D) (kd_fi D), (0, fun _ => kx_S0 (kd_nd D) (kd_nr D) (kd_fi D)), fun _ => none, (0, fun _ => 0, fun _ => 0, fun _ => 0), (0, ka_b A), -1)
theorem kx_A1ok {A : kp_A} {k : Nat} (h : kp_Aok A k) (p : Int32) : kp_Aok (kx_A1 A p) (k + 1) := ⟨h.1, h.mo.2.1, h.mo.2.2.1, h.mo.2.2.2.1, h.2.2.2.2.1, Nat.zero_le _⟩
theorem kx_A2ok {A : kp_A} {D : kx_D} {k : Nat} (h : kx_Di D) (hk : kx_Dk D) : kp_Aok (kx_A2 A D) k := by
  have hT := kx_Tok h hk
  exact ⟨hT, kx_Gok0 hT, fun i hi => absurd hi (Nat.not_lt_zero i), fun s Z e => (by cases e), ⟨Nat.zero_le _, fun i hi => absurd hi (Nat.not_lt_zero i)⟩, Nat.zero_le _⟩
theorem kC_TC {A : kp_A} {k : Nat} {σ : kf_St} (hA : kp_Aok A k) (h : kp_Cr A σ) : kx_TC (kx_Xa A) σ := by
  obtain ⟨h1, h2, h3, h4, h5, ⟨h6, h7⟩, h8, h9⟩ := h
  refine ⟨hA.2.2.2.2.2, h6, fun i hi => ?_, fun i => Nat.mod_lt _ (by decide), h9⟩
  rw [h7 i hi]
  exact kx_and255 _
theorem kx_an0 {X : kx_X} {r : kx_S × kx_D} (h : (kx_an X r).1 = 0) : r.1.2 = 0 ∧ (kd_sl r.2).1 = 0 ∧ kx_an X r = kd_sl r.2 := by
  unfold kx_an at h ⊢
  by_cases c : r.1.2 = 0
  · rw [if_pos c] at h ⊢; exact ⟨c, h, rfl⟩
  · rw [if_neg c] at h; exact absurd h c
theorem kC_read {A : kp_A} {k : Nat} {S : kx_sf} {σ : kf_St} (hA : kp_Aok A k) (hS : kx_sC (kx_Xa A) S) (h : kp_Cr A σ) : ((kx_an (kx_Xa A) (kx_all (kx_Xa A) S)).1 ≠ 0 → ∃ τ, f_X11_read 0 σ = some (nI (kx_an (kx_Xa A) (kx_all (kx_Xa A) S)).1, τ) ∧ kp_frC σ τ ∧ kp_Cr (kx_A1 A (kx_an (kx_Xa A) (kx_all (kx_Xa A) S)).2) τ) ∧ ((kx_an (kx_Xa A) (kx_all (kx_Xa A) S)).1 = 0 → kx_Di (kx_all (kx_Xa A) S).2 ∧ ∃ τ, f_X11_read 0 σ = some (0, τ) ∧ kp_frC σ τ ∧ kp_Cr (kx_A2 A (kx_all (kx_Xa A) S).2) τ) := by
  obtain ⟨τ1, a1, a2, a3, a4, a5, a6⟩ := kC_whole hS (kC_TC hA h)
  obtain ⟨h1, h2, h3, h4, h5, ⟨h6, h7⟩, h8, h9⟩ := h
  generalize hr : kx_all (kx_Xa A) S = r at *
  generalize hX : kx_Xa A = X at *
  have w1 : kx_fr (fun a b => a = 1 ∧ b = 0) kx_n0 τ1 (kf_wi τ1 1 0 0) := kx_fr.rf.wi ⟨rfl, rfl⟩
  have q43 : ∀ b, (kf_wi τ1 1 0 0).1 43 b = τ1.1 43 b := fun b => kp_wi_row (by decide) b
  have FR : kx_fr (fun a b => kx_wF a b ∨ a = 1) kx_wG σ (kf_wi τ1 1 0 0) := (a4.mono (fun _ _ q => Or.inl q) (fun _ _ q => q)).tr (w1.mono (fun _ _ q => Or.inr q.1) (fun _ _ q => q.elim))
  have e : ∀ r, ((6 < r ∧ r < 25) ∨ 44 ≤ r) → (kf_wi τ1 1 0 0).1 r = σ.1 r := fun r hr => FR.row (fun b q => by unfold kx_wF kx_cFP kx_cP at q; omega)
  have e2 : ∀ r, r = 3 ∨ 44 ≤ r → (kf_wi τ1 1 0 0).2 r = σ.2 r := fun r hr => FR.rowl (fun b q => by unfold kx_wG kx_cFQ kx_cQ at q; omega)
  refine ⟨fun ne => ?_, fun z => ?_⟩
  · refine ⟨kf_wi τ1 1 0 0, ?_, fun r hr => ⟨e r (by omega), e2 r (by omega)⟩, ?_⟩
    · unfold f_X11_read f_X11_read_62
      simp only [kz_lt]
      have n0 : ¬ τ1.1 43 0 = 0 := by
        rw [a2]
        intro q
        exact ne ((nI_eq (b := 0) (by omega) (by decide)).mp q)
      rw [kr0_3, kr0_0, a1, Option.bind_some, q43, if_neg n0, a2]
    · refine ⟨h1.ch (fun r a b d f => e r (by omega)), h2.ch hA.1.1.1 (fun r a => e r (by omega)), h3.ch (e 60 (by omega)) (e 61 (by omega)), h4.ch (by rw [e 60 (by omega)]) (e 62 (by omega)), ?_, ⟨kp_wi_same _ _ _ _, fun i hi => absurd hi (Nat.not_lt_zero i)⟩, (q43 1).trans a3, fun i hi => ?_⟩
      · rw [e 72 (by omega), e 73 (by omega), e 74 (by omega), e 75 (by omega)]; exact h5
      · rw [e2 3 (by omega)]; exact h9 i hi
  · obtain ⟨z1, z2, z3⟩ := kx_an0 z
    obtain ⟨di, e1, e3, e4, e5, e6, e7⟩ := a5 z1
    obtain ⟨k1, dk⟩ := di.2.2 z2
    refine ⟨di, ?_⟩
    obtain ⟨τ3, b1, b2, b3, b4, b5, b6, b7, b8, b9, b10⟩ := kC_bec (σ := kf_wi τ1 1 0 0) di.1 (e1.fr w1 (fun b _ => by omega)) (e4.fr w1 (fun b _ => by omega) (fun b _ => by omega)) (fun r hr => e5.fr w1 (fun a b _ _ _ => by omega) r hr) (e6.fr w1 (fun b _ _ => by omega)) (e7.fr w1 (fun a b _ _ => by omega))
    obtain ⟨τ4, c1, c2, c3, c4, c5, c6⟩ := kC_beg (σ := τ3) di.1.2.2 b3.2.2
    have w6 : kx_fr (fun a b => (a = 60 ∧ b < 2) ∨ (a = 72 ∧ b = 0)) kx_n0 τ4 (kf_wi (kf_wi (kf_wi τ4 60 0 0) 60 1 0) 72 0 0) := ((kx_fr.rf.wi (Or.inl ⟨rfl, by decide⟩)).wi (Or.inl ⟨rfl, by decide⟩)).wi (Or.inr ⟨rfl, rfl⟩)
    have v6 : (kf_wi (kf_wi (kf_wi τ4 60 0 0) 60 1 0) 72 0 0).1 60 0 = 0 ∧ (kf_wi (kf_wi (kf_wi τ4 60 0 0) 60 1 0) 72 0 0).1 60 1 = 0 ∧ (kf_wi (kf_wi (kf_wi τ4 60 0 0) 60 1 0) 72 0 0).1 72 0 = 0 := ⟨by rw [kp_wi_row (by decide), kp_wi_ne (by omega), kp_wi_same], by rw [kp_wi_row (by decide), kp_wi_same], kp_wi_same _ _ _ _⟩
    generalize hρ : kf_wi (kf_wi (kf_wi τ4 60 0 0) 60 1 0) 72 0 0 = ρ at w6 v6
    have o7 : ∀ a b, a < 44 → ρ.1 a b = τ3.1 a b := fun a b ha => (w6.1 a b (by omega)).trans (c2.1 a b (by omega))
    have oS : ∀ a b, (a = 44 ∨ (46 ≤ a ∧ a ≤ 58)) → ρ.1 a b = τ4.1 a b := fun a b ha => w6.1 a b (by omega)
    have oB : ∀ a b, (a < 7 ∨ a = 43) → ρ.1 a b = (kf_wi τ1 1 0 0).1 a b := fun a b ha => (o7 a b (by omega)).trans (b2.1 a b (by omega))
    have f0 : ρ.1 43 0 = 0 := (oB 43 0 (by omega)).trans ((q43 0).trans (a2.trans (by rw [z]; rfl)))
    have f1 : ρ.1 43 1 = -1 := (oB 43 1 (by omega)).trans ((q43 1).trans (a3.trans (by rw [z3]; exact k1)))
    have up : ∀ r, 77 ≤ r → ρ.1 r = σ.1 r := fun r hr => (w6.row (fun b => by omega)).trans ((c2.row (fun b => by omega)).trans ((b2.row (fun b => by omega)).trans (e r (by omega))))
    have up2 : ∀ r, r = 3 ∨ 77 ≤ r → ρ.2 r = σ.2 r := fun r hr => (w6.rowl (fun b q => q)).trans ((c2.rowl (fun b q => q)).trans ((b2.rowl (fun b => by omega)).trans (e2 r (by omega))))
    obtain ⟨-, -, x, x1, x2, -⟩ := h3
    refine ⟨ρ, ?_, fun r hr => ⟨up r hr, up2 r (by omega)⟩, ⟨⟨(o7 7 0 (by decide)).trans b3.1, (o7 7 1 (by decide)).trans b3.2.1, (o7 7 2 (by decide)).trans b3.2.2⟩, ⟨(o7 7 3 (by decide)).trans b4.1, (o7 7 4 (by decide)).trans b4.2.1, (o7 7 5 (by decide)).trans b4.2.2⟩, fun d hd p hp => (o7 10 _ (by decide)).trans (b5 d hd p hp), fun c hc p hp => (o7 11 _ (by decide)).trans (b6 c hc p hp), fun r hr => ⟨(o7 12 _ (by decide)).trans (b7 r hr).1, (o7 13 _ (by decide)).trans (b7 r hr).2.1, (o7 14 _ (by decide)).trans (b7 r hr).2.2.1, (o7 15 _ (by decide)).trans (b7 r hr).2.2.2⟩, ?_, ?_, ?_⟩, ?_, ?_, ?_, ?_, ?_, f1, fun i hi => ?_⟩
    · unfold f_X11_read f_X11_read_62 f_X3_forgetAll
      simp only [kz_lt]
      rw [kr0_3, kr0_0, kr0_1, kr0_2, kr0_4, kr0_5, kr0_9, a1, Option.bind_some, q43, a2, z, if_pos (show nI 0 = 0 from rfl), b1, Option.bind_some, c1, Option.bind_some, Option.bind_some, hρ, f0]
    · exact kp_LC.ofw kx_la16 (by decide) di.2.1.1 ((b8.fr c2 (fun b => by omega) (fun b => by omega)).fr w6 (fun b => by omega) (fun b => by omega))
    · exact kp_LC.ofw kx_la19 (by decide) di.2.1.2.1 ((b9.fr c2 (fun b => by omega) (fun b => by omega)).fr w6 (fun b => by omega) (fun b => by omega))
    · exact kp_LC.ofw kx_la22 (by decide) di.2.1.2.2 ((b10.fr c2 (fun b => by omega) (fun b => by omega)).fr w6 (fun b => by omega) (fun b => by omega))
    · refine ⟨fun d hd => ?_, fun c hc => (oS 58 c (by omega)).trans (c4 c hc), (oS 44 2 (by omega)).trans c5, (oS 44 3 (by omega)).trans c6⟩
      have hd : d < kd_nd r.2 := hd
      have d6 : d < 6 := by have := di.1.1; omega
      show kp_cD ρ (46 + 2 * d) = if d < kd_nd r.2 then (kd_cut (kd_fi r.2 d), 0, 0, 0, 0, 0) else kd_0
      rw [if_pos hd]
      unfold kp_cD
      obtain ⟨y1, y2⟩ := c3 d d6
      rw [oS (46 + 2 * d) 1 (by omega), oS (46 + 2 * d) 2 (by omega), oS (46 + 2 * d) 3 (by omega), oS (46 + 2 * d) 4 (by omega), oS (46 + 2 * d) 5 (by omega), y2 1 (by decide) (by decide), y2 2 (by decide) (by decide), y2 3 (by decide) (by decide), y2 4 (by decide) (by decide), y2 5 (by decide) (by decide), kx_cut_c (g := kd_fi r.2 d) (fun p hp => by
        rw [oS (46 + 2 * d + 1) p (by omega), y1 p hp]
        exact b5 d hd p hp)]
    · exact ⟨Nat.zero_le _, v6.1, x, x1, (w6.1 60 2 (by omega)).trans ((c2.1 60 2 (by omega)).trans ((b2.1 60 2 (by omega)).trans ((congrFun (e 60 (by omega)) 2).trans x2))), fun i hi => absurd hi (Nat.not_lt_zero i)⟩
    · exact ⟨0, by decide, v6.2.1, fun s hs => Or.inl ⟨rfl, by
        have : s = 0 ∨ s = 1 ∨ s = 2 := by omega
        rcases this with rfl | rfl | rfl <;> rfl⟩⟩
    · exact ⟨v6.2.2, fun i hi => absurd hi (Nat.not_lt_zero i)⟩
    · exact ⟨(oB 1 0 (by omega)).trans (kp_wi_same _ _ _ _), fun i hi => absurd hi (Nat.not_lt_zero i)⟩
    · rw [up2 3 (by omega)]; exact h9 i hi
