/-! ===== pure: the reader of the first side, whole ===== -/
theorem kC_setLaw {a d : Nat} {σ : kf_St} (ha : kx_ld a) (hd : d < 10) : ∃ τ, f_X10_setLaw a (nI d) σ = some τ ∧ kx_CW a ([], [(0, d)]) τ ∧ kx_fr (fun r _ => r = a ∨ r = a + 1) kx_n0 σ τ := by
  have c0 : kx_fr (fun r _ => r = a ∨ r = a + 1) kx_n0 σ (kf_wi σ a 0 0) := kx_fr.rf.wi (Or.inl rfl)
  have l0 : kx_LA a [] (kf_wi σ a 0 0) := ⟨kp_wi_same _ _ _ _, True.intro⟩
  obtain ⟨τ1, t1, t2, t3, t4⟩ := kC_put (k := 0) (v := d) (cs := []) ha (by decide) (by omega) ⟨0, by decide, kp_wi_same σ a 0 0⟩
  obtain ⟨τ2, u1, u2, u3, u4⟩ := kC_put (k := 7) (v := 0) (cs := [(0, d)]) ha (by decide) (by decide) t2
  have l2 := u3 (t3 l0 (by decide)) (by show 1 < 401; decide)
  refine ⟨τ2, ?_, ⟨by show 2 ≤ 401; decide, l2.1, l2.2⟩, (c0.tr t4).tr u4⟩
  unfold f_X10_setLaw f_X2_clear
  simp only [kz_lt]
  rw [Option.bind_some, show f_X2_put a 0 (nI d) (kf_wi σ a 0 0) = some τ1 from t1, Option.bind_some, show f_X2_put a 7 0 τ1 = some τ2 from u1, Option.bind_some]
theorem kC_clear (σ : kf_St) : ∃ τ, f_X10_clear 25 σ = some τ ∧ (kx_D1 kx_D0 τ ∧ kx_D2 kx_D0 τ ∧ kx_D3 kx_D0 τ ∧ kx_D4 kx_D0 τ ∧ kx_D5 kx_D0 τ ∧ kx_D6 kx_D0 τ) ∧ kx_fr kx_cFP kx_cFQ σ τ := by
  have w25 : ∀ {τ : kf_St} {j : Nat} {v : Int32}, kx_fr (fun a b => a = 25) kx_n0 σ τ → kx_fr (fun a b => a = 25) kx_n0 σ (kf_wi τ 25 j v) := fun c => c.wi (P := fun a b => a = 25) rfl
  have c0 : kx_fr (fun a b => a = 25) kx_n0 σ (kf_wi (kf_wi (kf_wi (kf_wi (kf_wi (kf_wi σ 25 0 0) 25 1 0) 25 2 0) 25 3 0) 25 4 40) 25 5 0) := w25 (w25 (w25 (w25 (w25 (w25 kx_fr.rf)))))
  have v : ∀ k w, (k = 0 ∧ w = (0 : Int32) ∨ k = 1 ∧ w = 0 ∨ k = 2 ∧ w = 0 ∨ k = 3 ∧ w = 0 ∨ k = 4 ∧ w = 40 ∨ k = 5 ∧ w = 0) → (kf_wi (kf_wi (kf_wi (kf_wi (kf_wi (kf_wi σ 25 0 0) 25 1 0) 25 2 0) 25 3 0) 25 4 40) 25 5 0).1 25 k = w := by
    intro k w h
    rcases h with ⟨rfl, rfl⟩ | ⟨rfl, rfl⟩ | ⟨rfl, rfl⟩ | ⟨rfl, rfl⟩ | ⟨rfl, rfl⟩ | ⟨rfl, rfl⟩ <;> simp only [kp_wi_at] <;> rfl
  generalize hρ : kf_wi (kf_wi (kf_wi (kf_wi (kf_wi (kf_wi σ 25 0 0) 25 1 0) 25 2 0) 25 3 0) 25 4 40) 25 5 0 = ρ at c0 v
  obtain ⟨τ1, t1, t2, t3⟩ := kC_setLaw (a := 34) (d := 1) (σ := ρ) kx_ld34 (by decide)
  obtain ⟨τ2, u1, u2, u3⟩ := kC_setLaw (a := 37) (d := 0) (σ := τ1) kx_ld37 (by decide)
  obtain ⟨τ3, w1, w2, w3⟩ := kC_setLaw (a := 40) (d := 1) (σ := τ2) kx_ld40 (by decide)
  have e25 : ∀ k, τ3.1 25 k = ρ.1 25 k := fun k => (w3.1 25 k (by omega)).trans ((u3.1 25 k (by omega)).trans (t3.1 25 k (by omega)))
  refine ⟨τ3, ?_, ⟨⟨(e25 0).trans (v 0 _ (Or.inl ⟨rfl, rfl⟩)), (e25 1).trans (v 1 _ (Or.inr (Or.inl ⟨rfl, rfl⟩))), (e25 2).trans (v 2 _ (Or.inr (Or.inr (Or.inl ⟨rfl, rfl⟩))))⟩, ⟨fun d hd => absurd hd (Nat.not_lt_zero d), fun d hd => absurd hd (Nat.not_lt_zero d)⟩, ⟨fun d hd => absurd hd (Nat.not_lt_zero d), fun d hd => absurd hd (Nat.not_lt_zero d)⟩, fun d hd => absurd hd (Nat.not_lt_zero d), ⟨(e25 3).trans (v 3 _ (Or.inr (Or.inr (Or.inr (Or.inl ⟨rfl, rfl⟩))))), (e25 4).trans (v 4 _ (Or.inr (Or.inr (Or.inr (Or.inr (Or.inl ⟨rfl, rfl⟩)))))), (e25 5).trans (v 5 _ (Or.inr (Or.inr (Or.inr (Or.inr (Or.inr (⟨rfl, rfl⟩)))))))⟩, ⟨(t2.fr u3 (fun b => by omega) (fun b => by omega)).fr w3 (fun b => by omega) (fun b => by omega), u2.fr w3 (fun b => by omega) (fun b => by omega), w2⟩⟩, (((c0.cF (fun a b q => by omega) (fun _ _ q => q.elim)).tr (t3.cF (fun a b q => by omega) (fun _ _ q => q.elim))).tr (u3.cF (fun a b q => by omega) (fun _ _ q => q.elim))).tr (w3.cF (fun a b q => by omega) (fun _ _ q => q.elim))⟩
  unfold f_X10_clear
  simp only [kz_lt]
  rw [hρ, kr25_14, kr25_15, kr25_16, show f_X10_setLaw 34 1 ρ = some τ1 from t1, Option.bind_some, show f_X10_setLaw 37 0 τ1 = some τ2 from u1, Option.bind_some, show f_X10_setLaw 40 1 τ2 = some τ3 from w1, Option.bind_some]
theorem kC_rw {X : kx_X} {S : kx_sf} (hS : kx_sC X S) : ∀ g i, i + g = 401 → ∀ f, g < f → ∀ s D σ, kx_RC X s σ → (s.2 = 0 → kx_DC D σ ∧ kx_Di D) → ∃ τ, f_X6_readWhole_48 f 43 (nI i) σ = f_X6_readWhole_79 43 τ ∧ kx_RC X (kx_rw X S g s D).1 τ ∧ ((kx_rw X S g s D).1.2 = 0 → kx_DC (kx_rw X S g s D).2 τ ∧ kx_Di (kx_rw X S g s D).2) ∧ kx_fr kx_cFP kx_cFQ σ τ := by
  intro g
  induction g with
  | zero =>
    intro i hi f hf s D σ h hD
    obtain ⟨f, rfl⟩ := kp_fuel hf
    refine ⟨σ, ?_, h, hD, kx_fr.rf⟩
    show f_X6_readWhole_48_s _ 43 (nI i) σ = _
    unfold f_X6_readWhole_48_s
    rw [if_pos (show (400 : Int32) < nI i from nI_lt (a := 400) (by omega) (by omega))]
  | succ g ih =>
    intro i hi f hf s D σ h hD
    obtain ⟨f, rfl⟩ := kp_fuel (show 0 < f by omega)
    have kl := kx_K_lt X s.1
    have f2 := h.1.2
    rw [show kx_rw X S (g + 1) s D = if s.2 = 0 ∧ ¬ kx_K X s.1 = 0 then kx_rw X S g (kx_te X S s D).1 (kx_te X S s D).2 else (s, D) from rfl]
    have start : ∀ z, (if s.2 = 0 ∧ ¬ kx_K X s.1 = 0 then (f_X6_readTell 43 σ).bind fun q => f_X6_readWhole_48 f 43 (nI (i + 1)) q else f_X6_readWhole_79 43 σ) = z → f_X6_readWhole_48 (f + 1) 43 (nI i) σ = z := by
      intro z hz
      show f_X6_readWhole_48_s _ 43 (nI i) σ = _
      unfold f_X6_readWhole_48_s
      simp only [kz_lt]
      rw [if_neg (show ¬ (400 : Int32) < nI i from nI_nlt (a := 400) (by omega) (by decide)), h.2.2.1, h.2.2.2.2, nI_1, ← hz]
      by_cases c0 : s.2 = 0
      · rw [if_pos (show nI s.2 = 0 by rw [c0]; rfl)]
        by_cases c1 : kx_K X s.1 = 0
        · rw [if_pos (show nI (kx_K X s.1) = 0 by rw [c1]; rfl), if_neg (fun q => q.2 c1)]
        · rw [if_neg (nI_ne0 (by omega) (by omega)), if_pos ⟨c0, c1⟩]
      · rw [if_neg (nI_ne0 (by omega) (by omega)), if_neg (fun q => c0 q.1)]
    by_cases c : s.2 = 0 ∧ ¬ kx_K X s.1 = 0
    · rw [if_pos c]
      obtain ⟨d1, d2⟩ := hD c.1
      obtain ⟨τ1, t1, t2, t3, t4⟩ := kC_tell hS d2.1 c.1 h d1
      obtain ⟨τ2, u1, u2, u3, u4⟩ := ih (i + 1) (by omega) f (by omega) (kx_te X S s D).1 (kx_te X S s D).2 τ1 t2 (fun q => ⟨t3 q, (kx_i_te hS.1 h.1 d2 q).1⟩)
      refine ⟨τ2, start _ ?_, u2, u3, t4.tr u4⟩
      rw [if_pos c, t1, Option.bind_some, u1]
    · rw [if_neg c]
      exact ⟨σ, start _ (if_neg c), h, hD, kx_fr.rf⟩
/-- the answer and the place -/
def kx_an (X : kx_X) (r : kx_S × kx_D) : Nat × Int32 := if r.1.2 = 0 then kd_sl r.2 else (r.1.2, nI (kx_P X r.1.1))
def kx_wF (a b : Nat) : Prop := kx_cFP a b ∨ kx_cP a b
def kx_wG (a b : Nat) : Prop := kx_cFQ a b ∨ kx_cQ a b
def kx_all (X : kx_X) (S : kx_sf) : kx_S × kx_D := kx_rw X S 401 (0, 0) kx_D0
theorem kC_whole {X : kx_X} {S : kx_sf} {σ : kf_St} (hS : kx_sC X S) (h : kx_TC X σ) : ∃ τ, f_X6_readWhole 43 σ = some τ ∧ τ.1 43 0 = nI (kx_an X (kx_all X S)).1 ∧ τ.1 43 1 = (kx_an X (kx_all X S)).2 ∧ kx_fr kx_wF kx_wG σ τ ∧ ((kx_all X S).1.2 = 0 → kx_Di (kx_all X S).2 ∧ kx_D1 (kx_all X S).2 τ ∧ kx_D2 (kx_all X S).2 τ ∧ kx_D3 (kx_all X S).2 τ ∧ kx_D4 (kx_all X S).2 τ ∧ kx_D5 (kx_all X S).2 τ ∧ kx_D6 (kx_all X S).2 τ) ∧ (kx_an X (kx_all X S)).1 ≤ 5 := by
  obtain ⟨τ1, a1, ⟨d1, d2, d3, d4, d5, d6⟩, a3⟩ := kC_clear σ
  have h1 : kx_TC X τ1 := h.fr a3 (by unfold kx_cFP; omega) (fun j => by unfold kx_cFP; omega) (fun j => by unfold kx_cFQ; omega)
  obtain ⟨τ2, b1, b2, b3⟩ := kC_cut h1
  have P25 : ∀ a b, 25 ≤ a → a ≤ 42 → ¬ kx_cP a b := fun a b x y q => by unfold kx_cP at q; omega
  have b0 : τ2.1 4 0 = nI (kx_K X 0) := (b3 0 (kx_ok0 X)).1
  have w43 : ∀ {τ : kf_St} {j : Nat} {v : Int32}, kx_fr (fun a b => a = 43) kx_n0 τ2 τ → kx_fr (fun a b => a = 43) kx_n0 τ2 (kf_wi τ 43 j v) := fun c => c.wi (P := fun a b => a = 43) rfl
  have cw : kx_fr (fun a b => a = 43) kx_n0 τ2 (kf_wi (kf_wi (kf_wi (kf_wi (kf_wi τ2 43 4 0) 43 5 (nI (kx_K X 0))) 43 0 0) 43 6 0) 43 7 (-1)) := w43 (w43 (w43 (w43 (w43 kx_fr.rf))))
  have v : ∀ k w, (k = 4 ∧ w = (0 : Int32) ∨ k = 5 ∧ w = nI (kx_K X 0) ∨ k = 0 ∧ w = 0 ∨ k = 6 ∧ w = 0 ∨ k = 7 ∧ w = -1) → (kf_wi (kf_wi (kf_wi (kf_wi (kf_wi τ2 43 4 0) 43 5 (nI (kx_K X 0))) 43 0 0) 43 6 0) 43 7 (-1)).1 43 k = w := by
    intro k w h
    rcases h with ⟨rfl, rfl⟩ | ⟨rfl, rfl⟩ | ⟨rfl, rfl⟩ | ⟨rfl, rfl⟩ | ⟨rfl, rfl⟩ <;> simp only [kp_wi_at] <;> rfl
  generalize hρ : kf_wi (kf_wi (kf_wi (kf_wi (kf_wi τ2 43 4 0) 43 5 (nI (kx_K X 0))) 43 0 0) 43 6 0) 43 7 (-1) = ρ at cw v
  have rc : kx_RC X (0, 0) ρ := ⟨⟨kx_ok0 X, by decide⟩, fun j hj => (b3 j hj).fr cw (fun b => by omega) (fun b => by omega) (fun b q => q), v 0 _ (Or.inr (Or.inr (Or.inl ⟨rfl, rfl⟩))), v 4 _ (Or.inl ⟨rfl, rfl⟩), v 5 _ (Or.inr (Or.inl ⟨rfl, rfl⟩))⟩
  have dc : kx_DC kx_D0 ρ := ⟨⟨v 6 _ (Or.inr (Or.inr (Or.inr (Or.inl ⟨rfl, rfl⟩)))), v 7 _ (Or.inr (Or.inr (Or.inr (Or.inr (⟨rfl, rfl⟩))))), by decide⟩, (d1.fr b2 (fun b _ => P25 _ _ (by decide) (by decide))).fr cw (fun b _ => by omega), ⟨fun d hd => absurd hd (Nat.not_lt_zero d), fun d hd => absurd hd (Nat.not_lt_zero d)⟩, ⟨fun d hd => absurd hd (Nat.not_lt_zero d), fun d hd => absurd hd (Nat.not_lt_zero d)⟩, fun d hd => absurd hd (Nat.not_lt_zero d), (d5.fr b2 (fun b _ _ => P25 _ _ (by decide) (by decide))).fr cw (fun b _ _ => by omega), (d6.fr b2 (fun a b x y => P25 _ _ (by omega) y)).fr cw (fun a b x y => by omega)⟩
  obtain ⟨τ3, m1, m2, m3, m4⟩ := kC_rw hS 401 0 rfl kf_F (kf_F_gt (by decide)) (0, 0) kx_D0 ρ rc (fun _ => ⟨dc, kx_Di0⟩)
  rw [← show kx_all X S = kx_rw X S 401 (0, 0) kx_D0 from rfl] at m2 m3
  generalize kx_all X S = r at m2 m3 ⊢
  have f2 := m2.1.2
  have fr3 : kx_fr kx_wF kx_wG σ τ3 := (((a3.mono (fun _ _ q => Or.inl q) (fun _ _ q => Or.inl q)).tr (b2.mono (fun _ _ q => Or.inr q) (fun _ _ q => Or.inr q))).tr (cw.mono (fun a b q => Or.inl (by unfold kx_cFP; omega)) (fun _ _ q => q.elim))).tr (m4.mono (fun _ _ q => Or.inl q) (fun _ _ q => Or.inl q))
  have run : f_X6_readWhole 43 σ = f_X6_readWhole_79 43 τ3 := by
    unfold f_X6_readWhole
    simp only [kz_lt]
    have ki : ∀ τ : kf_St, τ.1 4 0 = nI (kx_K X 0) → f_X8_kindAt 1 0 τ = some (nI (kx_K X 0), τ) := fun τ e => by
      unfold f_X8_kindAt
      rw [kr1_3, kl4, if_neg (by decide), if_neg (by decide), if_pos (by decide), show Int32.toNatClampNeg 0 = 0 from rfl, e]
    rw [kr43_3, kr43_2, a1, Option.bind_some, b1, Option.bind_some, ki _ ((kp_wi_row (by decide) _).trans b0), Option.bind_some]
    dsimp only
    rw [hρ]
    exact m1
  rw [run]
  unfold f_X6_readWhole_79 f_X6_readWhole_105 f_X6_readWhole_127 kx_an
  simp only [kz_lt]
  rw [m2.2.2.1]
  by_cases z : r.1.2 = 0
  · obtain ⟨⟨e0, e1, e2, e3, e4, e5, e6⟩, di⟩ := m3 z
    rw [if_pos (show nI r.1.2 = 0 by rw [z]; rfl), if_pos z, kp_wi_ne (by omega), m2.2.2.1, if_pos (show nI r.1.2 = 0 by rw [z]; rfl), kp_wi_ne (by omega), e0.1, e0.2.1]
    have c2 : kx_fr (fun a b => a = 43 ∧ b < 2) kx_n0 τ3 (kf_wi (kf_wi τ3 43 1 (kd_sl r.2).2) 43 0 (nI (kd_sl r.2).1)) := (kx_fr.rf.wi ⟨rfl, by decide⟩).wi ⟨rfl, by decide⟩
    exact ⟨_, rfl, kp_wi_same _ _ _ _, (kp_wi_ne (by omega)).trans (kp_wi_same _ _ _ _), fr3.tr (c2.mono (fun a b q => Or.inl (by unfold kx_cFP; omega)) (fun _ _ q => q.elim)), fun _ => ⟨di, e1.fr c2 (fun b _ => by omega), e2.fr c2 (fun _ _ q => q) (fun _ _ q => q), e3.fr c2 (fun b _ => by omega) (fun b _ => by omega), fun r hr => e4.fr c2 (fun a b _ _ _ => by omega) r hr, e5.fr c2 (fun b _ _ => by omega), e6.fr c2 (fun a b _ _ => by omega)⟩, e0.2.2⟩
  · rw [if_neg (nI_ne0 (by omega) (by omega)), if_neg z, kr43_2, m2.2.2.2.1, kC_pla m2.1.1 m2.2.1, Option.bind_some]
    dsimp only
    rw [kp_wi_ne (by omega), m2.2.2.1, if_neg (nI_ne0 (by omega) (by omega))]
    have c2 : kx_fr (fun a b => a = 43 ∧ b < 2) kx_n0 τ3 (kf_wi (kf_wi τ3 43 1 (nI (kx_P X r.1.1))) 43 0 (nI r.1.2)) := (kx_fr.rf.wi ⟨rfl, by decide⟩).wi ⟨rfl, by decide⟩
    exact ⟨_, rfl, kp_wi_same _ _ _ _, (kp_wi_ne (by omega)).trans (kp_wi_same _ _ _ _), fr3.tr (c2.mono (fun a b q => Or.inl (by unfold kx_cFP; omega)) (fun _ _ q => q.elim)), fun q => absurd q z, by show r.1.2 ≤ 5; omega⟩
