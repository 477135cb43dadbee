/-! ===== pure: the reader of the second side, whole (2) ===== -/
def kx_gF (sd a b : Nat) : Prop := kx_tF sd a b ∨ (a = 77 ∧ (b = 2 ∨ b = 4 ∨ b = 10 ∨ b = 19)) ∨ (79 ≤ a ∧ a ≤ 82)
def kx_gG (a b : Nat) : Prop := a = 85 ∨ a = 83
theorem kM_whole {X : kx_X} {S : kx_sf} {lv : Nat} {σ : kf_St} (hX : X.1 ≤ 2000) (hl : lv < 2) (hS : kx_gd X 15 S) (hM : kx_xM X (1 - lv) S) (h2 : σ.1 77 2 = nI X.1) (hb : ∀ i, i < X.1 → σ.1 78 i &&& 255 = nI (X.2 i)) (h256 : ∀ i, X.2 i < 256) (hc : ∀ k, k < 21 → σ.2 84 k = kf_codes k) (h18 : σ.1 77 18 = nI lv) : ∃ τ, f_X12_read 77 σ = f_X12_read_134 77 τ ∧ kx_RM X (kx_all X S).1 τ ∧ ((kx_all X S).1.2 = 0 → kx_DM X (kx_all X S).2 (1 - lv) (kx_all X S).1 τ ∧ kx_Di (kx_all X S).2) ∧ kx_fr (kx_gF (1 - lv)) kx_gG σ τ ∧ τ.1 77 2 = 0 ∧ τ.1 77 19 = nI (1 - lv) := by
  generalize hsd : 1 - lv = sd at *
  have hs : sd < 2 := by omega
  have e4 : (kf_wi σ 77 4 (σ.1 77 2)).1 77 4 = nI X.1 := by rw [kp_wi_same, h2]
  have q4 : kx_fr (fun a b => a = 77 ∧ b = 4) kx_n0 σ (kf_wi σ 77 4 (σ.1 77 2)) := kx_fr.rf.wi ⟨rfl, rfl⟩
  obtain ⟨τ1, a1, a2, a3⟩ := kM_copy (σ := kf_wi σ 77 4 (σ.1 77 2)) hX e4
  have w2 : kx_fr (fun a b => a = 77 ∧ b = 2) kx_n0 τ1 (kf_wi τ1 77 2 0) := kx_fr.rf.wi ⟨rfl, rfl⟩
  have tm : kx_TM X (kf_wi τ1 77 2 0) := by
    refine ⟨hX, (kp_wi_ne (by omega)).trans ((a2.1 77 4 (by omega)).trans e4), fun i hi => ?_, h256, fun k hk => (a2.2 84 k (fun q => q)).trans (hc k hk)⟩
    rw [kp_wi_row (by decide), a3 i hi, kx_nar8, kp_wi_row (by decide)]
    exact hb i hi
  obtain ⟨τ2, b1, b2, b3⟩ := kM_cut tm
  have e18 : τ2.1 77 18 = nI lv := (b2.1 77 18 (by unfold kx_mP; omega)).trans ((kp_wi_ne (by omega)).trans ((a2.1 77 18 (by omega)).trans ((kp_wi_ne (by omega)).trans h18)))
  have c3 : kx_fr (fun a b => a = 77 ∧ (b = 11 ∨ b = 12 ∨ b = 13 ∨ b = 15 ∨ b = 19 ∨ b = 20)) kx_n0 τ2 (kf_wi (kf_wi (kf_wi (kf_wi (kf_wi (kf_wi τ2 77 11 0) 77 12 0) 77 13 0) 77 15 0) 77 19 (nI sd)) 77 20 0) := (((((kx_fr.rf.wi ⟨rfl, by omega⟩).wi ⟨rfl, by omega⟩).wi ⟨rfl, by omega⟩).wi ⟨rfl, by omega⟩).wi ⟨rfl, by omega⟩).wi ⟨rfl, by omega⟩
  have v3 : (kf_wi (kf_wi (kf_wi (kf_wi (kf_wi (kf_wi τ2 77 11 0) 77 12 0) 77 13 0) 77 15 0) 77 19 (nI sd)) 77 20 0).1 77 11 = 0 ∧ (kf_wi (kf_wi (kf_wi (kf_wi (kf_wi (kf_wi τ2 77 11 0) 77 12 0) 77 13 0) 77 15 0) 77 19 (nI sd)) 77 20 0).1 77 12 = 0 ∧ (kf_wi (kf_wi (kf_wi (kf_wi (kf_wi (kf_wi τ2 77 11 0) 77 12 0) 77 13 0) 77 15 0) 77 19 (nI sd)) 77 20 0).1 77 13 = 0 ∧ (kf_wi (kf_wi (kf_wi (kf_wi (kf_wi (kf_wi τ2 77 11 0) 77 12 0) 77 13 0) 77 15 0) 77 19 (nI sd)) 77 20 0).1 77 15 = 0 ∧ (kf_wi (kf_wi (kf_wi (kf_wi (kf_wi (kf_wi τ2 77 11 0) 77 12 0) 77 13 0) 77 15 0) 77 19 (nI sd)) 77 20 0).1 77 19 = nI sd ∧ (kf_wi (kf_wi (kf_wi (kf_wi (kf_wi (kf_wi τ2 77 11 0) 77 12 0) 77 13 0) 77 15 0) 77 19 (nI sd)) 77 20 0).1 77 20 = 0 := by
    refine ⟨?_, ?_, ?_, ?_, ?_, kp_wi_same _ _ _ _⟩
    · rw [kp_wi_ne (by omega), kp_wi_ne (by omega), kp_wi_ne (by omega), kp_wi_ne (by omega), kp_wi_ne (by omega), kp_wi_same]
    · rw [kp_wi_ne (by omega), kp_wi_ne (by omega), kp_wi_ne (by omega), kp_wi_ne (by omega), kp_wi_same]
    · rw [kp_wi_ne (by omega), kp_wi_ne (by omega), kp_wi_ne (by omega), kp_wi_same]
    · rw [kp_wi_ne (by omega), kp_wi_ne (by omega), kp_wi_same]
    · rw [kp_wi_ne (by omega), kp_wi_same]
  have body1 : f_X12_read 77 σ = (f_X12_plain 77 (nI sd) (kf_wi (kf_wi (kf_wi (kf_wi (kf_wi (kf_wi τ2 77 11 0) 77 12 0) 77 13 0) 77 15 0) 77 19 (nI sd)) 77 20 0)).bind fun q_10 => f_X12_read_112 kf_F 77 (kf_wi (kf_wi q_10 77 37 (130 * (q_10.1 77 19))) 77 43 (420 * ((kf_wi q_10 77 37 (130 * (q_10.1 77 19))).1 77 19))) := by
    have s1 : (1 : Int32) - nI lv = nI sd := by
      have : lv = 0 ∨ lv = 1 := by omega
      rcases this with rfl | rfl <;> rw [← hsd] <;> rfl
    unfold f_X12_read
    simp only [kz_lt]
    rw [a1]
    show f_X12_read_10_s _ 77 (nI X.1) τ1 = _
    unfold f_X12_read_10_s
    simp only [kz_lt]
    rw [(a2.1 77 4 (by omega)).trans e4, if_pos (nI_le (Nat.le_refl _) (by omega)), b1, Option.bind_some]
    have e18' : (kf_wi (kf_wi (kf_wi (kf_wi τ2 77 11 0) 77 12 0) 77 13 0) 77 15 0).1 77 18 = nI lv := by
      rw [kp_wi_ne (by omega), kp_wi_ne (by omega), kp_wi_ne (by omega), kp_wi_ne (by omega), e18]
    rw [e18', s1, v3.2.2.2.2.1]
  generalize hρ3 : kf_wi (kf_wi (kf_wi (kf_wi (kf_wi (kf_wi τ2 77 11 0) 77 12 0) 77 13 0) 77 15 0) 77 19 (nI sd)) 77 20 0 = ρ3 at c3 v3 body1
  obtain ⟨τ4, p1, p2, p3, p4⟩ := kM_plain (sd := sd) ρ3 hs
  have e19 : τ4.1 77 19 = nI sd := (p2.1 77 19 (by omega)).trans v3.2.2.2.2.1
  have c5 : kx_fr (fun a b => a = 77 ∧ (b = 37 ∨ b = 43)) kx_n0 τ4 (kf_wi (kf_wi τ4 77 37 (nI (130 * sd + 0))) 77 43 (nI (420 * sd + 0))) := (kx_fr.rf.wi ⟨rfl, by omega⟩).wi ⟨rfl, by omega⟩
  have v5 : (kf_wi (kf_wi τ4 77 37 (nI (130 * sd + 0))) 77 43 (nI (420 * sd + 0))).1 77 37 = nI (130 * sd + 0) ∧ (kf_wi (kf_wi τ4 77 37 (nI (130 * sd + 0))) 77 43 (nI (420 * sd + 0))).1 77 43 = nI (420 * sd + 0) := ⟨(kp_wi_ne (by omega)).trans (kp_wi_same _ _ _ _), kp_wi_same _ _ _ _⟩
  have body2 : f_X12_read 77 σ = f_X12_read_112 kf_F 77 (kf_wi (kf_wi τ4 77 37 (nI (130 * sd + 0))) 77 43 (nI (420 * sd + 0))) := by
    rw [body1, p1, Option.bind_some, kp_wi_ne (by omega), e19, show (130 : Int32) = nI 130 from rfl, show (420 : Int32) = nI 420 from rfl, pk_mul, pk_mul]
    rfl
  generalize hρ5 : kf_wi (kf_wi τ4 77 37 (nI (130 * sd + 0))) 77 43 (nI (420 * sd + 0)) = ρ5 at c5 v5 body2
  have o7 : ∀ b, (b = 11 ∨ b = 12 ∨ b = 13 ∨ b = 15 ∨ b = 19 ∨ b = 20) → ρ5.1 77 b = ρ3.1 77 b := fun b hb => (c5.1 77 b (by omega)).trans (p2.1 77 b (by omega))
  have rm : kx_RM X (0, 0) ρ5 := ⟨⟨kx_ok0 X, by decide⟩, fun j hj => (((b3 j hj).fr c3 (fun a b _ _ q => by omega) (fun b q => q)).fr p2 (fun a b _ _ q => by omega) (fun b q => q)).fr c5 (fun a b _ _ q => by omega) (fun b q => q), (o7 13 (by omega)).trans v3.2.2.1, fun _ => (o7 11 (by omega)).trans v3.1, fun q => absurd rfl q⟩
  have oc : ∀ a b, a ≠ 77 → ρ5.1 a b = τ4.1 a b := fun a b ha => c5.1 a b (by omega)
  have mo : ∀ k, k < 3 → kx_MO k none sd (420 * sd + 0) (130 * sd + 0) ρ5 := fun k hk => ⟨(oc 99 _ (by decide)).trans (p4 k hk).1, (oc 100 _ (by decide)).trans (p4 k hk).2⟩
  have z0 : ∀ {P : Nat → Prop}, ∀ d, d < 0 → P d := fun d hd => absurd hd (Nat.not_lt_zero d)
  have dm : kx_DM X kx_D0 sd (0, 0) ρ5 := ⟨⟨⟨(o7 15 (by omega)).trans v3.2.2.2.1, fun q => absurd rfl q, by decide⟩, fun q => absurd rfl q⟩, ⟨(oc 87 _ (by decide)).trans p3.1, (oc 89 _ (by decide)).trans p3.2.1, (oc 91 _ (by decide)).trans p3.2.2.1, (o7 19 (by omega)).trans v3.2.2.2.2.1⟩, ⟨(o7 20 (by omega)).trans v3.2.2.2.2.2, fun j hj => absurd hj (Nat.not_lt_zero j), ⟨fun j hj => absurd hj (Nat.not_lt_zero j), fun a ha => absurd ha (Nat.not_lt_zero a), fun i j a b hij hj => absurd hj (Nat.not_lt_zero j)⟩, ⟨fun j hj => absurd hj (Nat.not_lt_zero j), fun a ha => absurd ha (Nat.not_lt_zero a), fun i j a b hij hj => absurd hj (Nat.not_lt_zero j)⟩⟩, ⟨fun d hd => absurd hd (Nat.not_lt_zero d), fun d hd => absurd hd (Nat.not_lt_zero d)⟩, fun _ r hr => absurd hr (Nat.not_lt_zero r), ⟨(oc 96 _ (by decide)).trans p3.2.2.2.1, (oc 97 _ (by decide)).trans p3.2.2.2.2.1, (oc 98 _ (by decide)).trans p3.2.2.2.2.2⟩, ⟨[], 0, ⟨⟨v5.2, True.intro⟩, (o7 12 (by omega)).trans v3.2.1, by decide⟩, v5.1, by decide, mo 0 (by decide), mo 1 (by decide), mo 2 (by decide)⟩⟩
  obtain ⟨τ6, m1, m2, m3, m4⟩ := kM_rw hX hs hS hM 401 (0, 0) kx_D0 ρ5 kf_F (by decide) (kf_F_gt (by decide)) rm (fun _ => ⟨dm, kx_Di0⟩)
  rw [← show kx_all X S = kx_rw X S 401 (0, 0) kx_D0 from rfl] at m2 m3
  have t77 : ∀ {b : Nat}, (b = 11 ∨ b = 12 ∨ b = 13 ∨ b = 14 ∨ b = 15 ∨ b = 16 ∨ b = 20 ∨ b = 37 ∨ b = 43 ∨ b = 47) → kx_tF sd 77 b := fun h => Or.inl ⟨rfl, h⟩
  have FR : kx_fr (kx_gF sd) kx_gG σ τ6 := by
    have r1 : kx_fr (kx_gF sd) kx_gG σ (kf_wi σ 77 4 (σ.1 77 2)) := q4.mono (fun a b q => Or.inr (Or.inl ⟨q.1, by omega⟩)) (fun _ _ q => q.elim)
    have r2 : kx_fr (kx_gF sd) kx_gG (kf_wi σ 77 4 (σ.1 77 2)) τ1 := a2.mono (fun a b q => Or.inr (Or.inr (by omega))) (fun _ _ q => q.elim)
    have r3 : kx_fr (kx_gF sd) kx_gG τ1 (kf_wi τ1 77 2 0) := w2.mono (fun a b q => Or.inr (Or.inl ⟨q.1, by omega⟩)) (fun _ _ q => q.elim)
    have r4 : kx_fr (kx_gF sd) kx_gG (kf_wi τ1 77 2 0) τ2 := b2.mono (fun a b q => by
      rcases q with q | q
      · exact Or.inr (Or.inl ⟨q.1, by omega⟩)
      · exact Or.inr (Or.inr (by omega))) (fun a b q => Or.inr q)
    have r5 : kx_fr (kx_gF sd) kx_gG τ2 ρ3 := c3.mono (fun a b q => by
      obtain ⟨rfl, q⟩ := q
      by_cases e : b = 19
      · exact Or.inr (Or.inl ⟨rfl, by omega⟩)
      · exact Or.inl (t77 (by omega))) (fun _ _ q => q.elim)
    have r6 : kx_fr (kx_gF sd) kx_gG ρ3 τ4 := p2.mono (fun a b q => by
      rcases q with q | q
      · exact Or.inl (kx_tF_c q)
      · exact Or.inl (Or.inr (Or.inr (Or.inr (Or.inr (Or.inr (Or.inl q))))))) (fun _ _ q => q.elim)
    have r7 : kx_fr (kx_gF sd) kx_gG τ4 ρ5 := c5.mono (fun a b q => by
      obtain ⟨rfl, q⟩ := q
      exact Or.inl (t77 (by omega))) (fun _ _ q => q.elim)
    exact ((((((r1.tr r2).tr r3).tr r4).tr r5).tr r6).tr r7).tr (m4.mono (fun _ _ q => Or.inl q) (fun _ _ q => Or.inl q))
  refine ⟨τ6, body2.trans m1, m2, m3, FR, ?_, ?_⟩
  · rw [m4.1 77 2 (by unfold kx_tF; omega), c5.1 77 2 (by omega), p2.1 77 2 (by omega), c3.1 77 2 (by omega), b2.1 77 2 (by unfold kx_mP; omega), kp_wi_same]
  · rw [m4.1 77 19 (by unfold kx_tF; omega), o7 19 (by omega), v3.2.2.2.2.1]
