/-! ===== pure: the reference reads doors and callers ===== -/
theorem kx_t3_f {X : kx_X} : ∀ m s, s.2 ≠ 0 → kx_t3 X m s = s
  | 0, _, _ => rfl
  | m + 1, s, h => by
    show kx_t3 X m (kx_tk X 3 s) = s
    rw [kx_tk_f h]
    exact kx_t3_f m s h
def kx_M1 (D : kx_D) (sd : Nat) (σ : kf_St) : Prop := σ.1 87 sd = nI (kd_nd D) ∧ σ.1 89 sd = nI (kd_nc D) ∧ σ.1 91 sd = nI (kd_nr D) ∧ σ.1 77 19 = nI sd
def kx_M3 (D : kx_D) (sd : Nat) (σ : kf_St) : Prop := (∀ d, d < kd_nd D → ∀ p, p < 4 → σ.1 88 (24 * sd + 4 * d + p) = kd_fi D d p) ∧ (∀ c, c < kd_nc D → ∀ p, p < 4 → σ.1 90 (20 * sd + 4 * c + p) = kd_lo D c p)
def kx_M4 (D : kx_D) (sd : Nat) (σ : kf_St) : Prop := (kd_sl D).1 = 0 → ∀ r, r < kd_nr D → σ.1 92 (10 * sd + r) = nI (kd_rc D r) ∧ σ.1 93 (10 * sd + r) = nI (kd_rd D r) ∧ σ.1 94 (10 * sd + r) = nI (kd_ev D r) ∧ σ.1 95 (10 * sd + r) = nI (kd_fr D r)
def kx_M5 (D : kx_D) (sd : Nat) (σ : kf_St) : Prop := σ.1 96 sd = nI (kd_wi D) ∧ σ.1 97 sd = nI (kd_ne D) ∧ σ.1 98 sd = nI (kd_se D)
def kx_M6 (D : kx_D) (sd : Nat) (s : kx_S) (σ : kf_St) : Prop := ∃ cs nb, (kx_CM sd cs σ ∧ σ.1 77 12 = 0 ∧ cs.length ≤ s.1) ∧ σ.1 77 37 = nI (130 * sd + nb) ∧ 4 * nb ≤ s.1 ∧ kx_MO 0 (kd_lg D) sd (420 * sd + cs.length) (130 * sd + nb) σ ∧ kx_MO 1 (kd_lw D) sd (420 * sd + cs.length) (130 * sd + nb) σ ∧ kx_MO 2 (kd_lp D) sd (420 * sd + cs.length) (130 * sd + nb) σ
def kx_DM (X : kx_X) (D : kx_D) (sd : Nat) (s : kx_S) (σ : kf_St) : Prop := (kx_MS (kd_sl D) σ ∧ kx_li X (kd_sl D) s.1) ∧ kx_M1 D sd σ ∧ kx_NM D σ ∧ kx_M3 D sd σ ∧ kx_M4 D sd σ ∧ kx_M5 D sd σ ∧ kx_M6 D sd s σ
def kx_tF (sd a b : Nat) : Prop := (a = 77 ∧ (b = 11 ∨ b = 12 ∨ b = 13 ∨ b = 14 ∨ b = 15 ∨ b = 16 ∨ b = 20 ∨ b = 37 ∨ b = 43 ∨ b = 47)) ∨ a = 108 ∨ a = 86 ∨ ((a = 106 ∨ a = 107) ∧ 420 * sd ≤ b ∧ b < 420 * sd + 420) ∨ (101 ≤ a ∧ a ≤ 105 ∧ 130 * sd ≤ b ∧ b < 130 * sd + 130) ∨ ((a = 99 ∨ a = 100) ∧ 3 * sd ≤ b ∧ b < 3 * sd + 3) ∨ ((a = 87 ∨ a = 89 ∨ a = 91 ∨ a = 96 ∨ a = 97 ∨ a = 98) ∧ b = sd) ∨ (a = 88 ∧ 24 * sd ≤ b ∧ b < 24 * sd + 24) ∨ (a = 90 ∧ 20 * sd ≤ b ∧ b < 20 * sd + 20) ∨ (92 ≤ a ∧ a ≤ 95 ∧ 10 * sd ≤ b ∧ b < 10 * sd + 10)
def kx_tG (a b : Nat) : Prop := a = 85
def kx_kM (X : kx_X) (sd : Nat) (D : kx_D) (s : kx_S) (F : kf_St → Option kf_St) (r : kx_S × kx_D) : Prop := ∀ σ, kx_RM X s σ → kx_DM X D sd s σ → ∃ τ, F σ = some τ ∧ kx_RM X (kx_tk X 59 r.1) τ ∧ ((kx_tk X 59 r.1).2 = 0 → kx_DM X r.2 sd (kx_tk X 59 r.1) τ) ∧ kx_fr (kx_tF sd) kx_tG σ τ
theorem kx_M6.fr {D D' : kx_D} {sd : Nat} {s s' : kx_S} {P Q : Nat → Nat → Prop} {σ τ : kf_St} (h : kx_M6 D sd s σ) (c : kx_fr P Q σ τ) (h0 : ∀ a b, P a b → (a = 77 → b ≠ 12 ∧ b ≠ 37 ∧ b ≠ 43) ∧ (a < 99 ∨ 107 < a)) (e : D'.2.2.2.2.2.2 = D.2.2.2.2.2.2) (hs : s.1 ≤ s'.1) : kx_M6 D' sd s' τ := by
  obtain ⟨cs, nb, ⟨a1, a2, a3⟩, b1, b2, c1, c2, c3⟩ := h
  have rw9 : ∀ r, 99 ≤ r → r ≤ 107 → τ.1 r = σ.1 r := fun r x y => c.row (fun b q => by have := (h0 _ _ q).2; omega)
  have ab : kx_ab sd (420 * sd + cs.length) (130 * sd + nb) σ τ := ⟨fun r x y j _ _ => congrFun (rw9 r (by omega) (by omega)) j, fun r x j _ _ => congrFun (rw9 r (by omega) (by omega)) j⟩
  have cm : kx_CM sd cs τ := ⟨(c.1 77 43 (fun q => ((h0 _ _ q).1 rfl).2.2 rfl)).trans a1.1, by rw [rw9 106 (by decide) (by decide), rw9 107 (by decide) (by decide)]; exact a1.2⟩
  refine ⟨cs, nb, ⟨cm, (c.1 77 12 (fun q => ((h0 _ _ q).1 rfl).1 rfl)).trans a2, by omega⟩, (c.1 77 37 (fun q => ((h0 _ _ q).1 rfl).2.1 rfl)).trans b1, by omega, ?_, ?_, ?_⟩
  · show kx_MO 0 D'.2.2.2.2.2.2.1 _ _ _ τ
    rw [e]; exact kx_MO_ag (congrFun (rw9 99 (by decide) (by decide)) _) (congrFun (rw9 100 (by decide) (by decide)) _) ab c1
  · show kx_MO 1 D'.2.2.2.2.2.2.2.1 _ _ _ τ
    rw [e]; exact kx_MO_ag (congrFun (rw9 99 (by decide) (by decide)) _) (congrFun (rw9 100 (by decide) (by decide)) _) ab c2
  · show kx_MO 2 D'.2.2.2.2.2.2.2.2 _ _ _ τ
    rw [e]; exact kx_MO_ag (congrFun (rw9 99 (by decide) (by decide)) _) (congrFun (rw9 100 (by decide) (by decide)) _) ab c3
theorem kx_so_new {σ τ : kf_St} {N base n c : Nat} {g : Nat → Int64} {v : Int64} (h : kx_so σ N base g n) (hn : n < 10) (hc : c = base + n) (hb : base ≤ 10) (e6 : ∀ j, j < N → τ.1 86 j = σ.1 86 j) (e5 : ∀ j, j < N → τ.2 85 j = σ.2 85 j) (c6 : τ.1 86 N = nI c) (c5 : τ.2 85 N = v) : kx_so τ (N + 1) base (kx_up g n v) (n + 1) := by
  obtain ⟨h1, h2, h3⟩ := h
  subst hc
  refine ⟨fun j hj a ha q => ?_, fun a ha => ?_, fun i j a b hij hj ha hb2 qa qb => ?_⟩
  · by_cases e : j = N
    · subst e
      have : a = n := by have := (nI_eq (by omega) (by omega)).mp (q.symm.trans c6); omega
      subst this
      exact ⟨by omega, by rw [kx_up_s]; exact c5⟩
    · obtain ⟨x, y⟩ := h1 j (by omega) a ha ((e6 j (by omega)).symm.trans q)
      exact ⟨by omega, by rw [kx_up_o (by omega), e5 j (by omega)]; exact y⟩
  · by_cases e : a = n
    · subst e
      exact ⟨N, by omega, c6, by rw [kx_up_s]; exact c5⟩
    · obtain ⟨j, x, y, z⟩ := h2 a (by omega)
      exact ⟨j, by omega, (e6 j x).trans y, by rw [kx_up_o e, e5 j x]; exact z⟩
  · by_cases e : j = N
    · subst e
      have eb : b = n := by have := (nI_eq (by omega) (by omega)).mp (qb.symm.trans c6); omega
      obtain ⟨x, -⟩ := h1 i (by omega) a ha ((e6 i (by omega)).symm.trans qa)
      omega
    · exact h3 i j a b hij (by omega) ha hb2 ((e6 i (by omega)).symm.trans qa) ((e6 j (by omega)).symm.trans qb)
theorem kx_so_old {σ τ : kf_St} {N base n c : Nat} {g : Nat → Int64} (h : kx_so σ N base g n) (hb : base ≤ 10) (hc : c < 100 ∧ (c < base ∨ base + 10 ≤ c)) (e6 : ∀ j, j < N → τ.1 86 j = σ.1 86 j) (e5 : ∀ j, j < N → τ.2 85 j = σ.2 85 j) (c6 : τ.1 86 N = nI c) : kx_so τ (N + 1) base g n := by
  obtain ⟨h1, h2, h3⟩ := h
  have no : ∀ a, a < 10 → ¬ τ.1 86 N = nI (base + a) := fun a ha q => by
    have := (nI_eq (by omega) (by omega)).mp (q.symm.trans c6)
    omega
  refine ⟨fun j hj a ha q => ?_, fun a ha => ?_, fun i j a b hij hj ha hb2 qa qb => ?_⟩
  · by_cases e : j = N
    · subst e; exact absurd q (no a ha)
    · obtain ⟨x, y⟩ := h1 j (by omega) a ha ((e6 j (by omega)).symm.trans q)
      exact ⟨x, (e5 j (by omega)).trans y⟩
  · obtain ⟨j, x, y, z⟩ := h2 a ha
    exact ⟨j, by omega, (e6 j x).trans y, (e5 j x).trans z⟩
  · by_cases e : j = N
    · subst e; exact absurd qb (no b hb2)
    · exact h3 i j a b hij (by omega) ha hb2 ((e6 i (by omega)).symm.trans qa) ((e6 j (by omega)).symm.trans qb)
def kx_fM (cF lo hi a b : Nat) : Prop := kx_nP a b ∨ (a = cF ∧ lo ≤ b ∧ b < hi)
theorem kx_RM.big {X : kx_X} {s : kx_S} {P Q : Nat → Nat → Prop} {σ τ : kf_St} (h : kx_RM X s σ) (c : kx_fr P Q σ τ) (h0 : ∀ a b, P a b → 85 ≤ a) (h1 : ∀ a b, Q a b → 85 ≤ a) : kx_RM X s τ := h.fr c (fun a b _ _ q => by have := h0 _ _ q; omega) (fun b q => by have := h1 _ _ q; omega) ⟨fun q => by have := h0 _ _ q; omega, fun q => by have := h0 _ _ q; omega, fun q => by have := h0 _ _ q; omega⟩
theorem kM_fl90 {X : kx_X} {sd n : Nat} {tk : Int32} (hX : X.1 ≤ 2000) (hs : sd < 2) (hn : 24 * sd + 4 * n + 4 ≤ 48) : ∀ m p, p + m = 4 → ∀ f, m < f → ∀ s σ, kx_RM X s σ → σ.1 77 19 = nI sd → σ.1 87 sd = nI n → ∃ τ, f_X12_tellOne_90 f 77 tk (nI p) σ = f_X12_tellOne_90 (f - m) 77 tk (nI 4) τ ∧ kx_RM X (kx_t3 X m s) τ ∧ kx_fr (kx_fM 88 (24 * sd + 4 * n + p) (24 * sd + 4 * n + 4)) kx_n0 σ τ ∧ ((kx_t3 X m s).2 = 0 → (∀ j, j < m → τ.1 88 (24 * sd + 4 * n + p + j) = nI (kx_N X (s.1 + j))) ∧ ∀ l, kx_MS l σ → kx_li X l s.1 → kx_MS (kx_n4 X 0 99 m s l) τ ∧ kx_li X (kx_n4 X 0 99 m s l) (s.1 + m)) := by
  intro m
  induction m with
  | zero =>
    intro p hp f hf s σ h h19 hR
    have : p = 4 := by omega
    subst this
    exact ⟨σ, rfl, h, kx_fr.rf, fun _ => ⟨fun j hj => absurd hj (Nat.not_lt_zero j), fun l hl hi => ⟨hl, hi⟩⟩⟩
  | succ m ih =>
    intro p hp f hf s σ h h19 hR
    obtain ⟨f, rfl⟩ := kp_fuel (show 0 < f by omega)
    obtain ⟨v, τ1, t1, t2, t3, t4⟩ := kM_num (lo := 0) (hi := 99) hX h (by decide)
    have c1 : kx_fr (fun a b => a = 88 ∧ b = 24 * sd + 4 * n + p) kx_n0 τ1 (kf_wi τ1 88 (24 * sd + 4 * n + p) v) := kx_fr.rf.wi ⟨rfl, rfl⟩
    obtain ⟨τ2, u1, u2, u3, u4⟩ := ih (p + 1) (by omega) f (by omega) (kx_tk X 3 s) (kf_wi τ1 88 (24 * sd + 4 * n + p) v) (t2.big c1 (fun a b q => by omega) (fun _ _ q => q.elim)) ((c1.1 77 19 (by omega)).trans ((t3.1 77 19 (by unfold kx_nP; omega)).trans h19)) ((c1.1 87 sd (by omega)).trans ((t3.1 87 sd (by unfold kx_nP; omega)).trans hR))
    refine ⟨τ2, ?_, u2, ?_, fun q => ?_⟩
    · rw [show f + 1 - (m + 1) = f - m by omega]
      show f_X12_tellOne_90_s _ 77 tk (nI p) σ = _
      unfold f_X12_tellOne_90_s
      simp only [kz_lt]
      have ix : (24 : Int32) * nI sd + 4 * nI n + nI p = nI (24 * sd + 4 * n + p) := by rw [show (24 : Int32) = nI 24 from rfl, show (4 : Int32) = nI 4 from rfl, pk_mul, pk_mul, nI_add, nI_add]
      rw [if_neg (show ¬ (4 : Int32) ≤ nI p from nI_ge (b := 4) (by omega) (by decide)), h19, kr77_23, kl87, if_pos (kf_ixN (by omega) (by decide)), show f_X12_bounded 77 0 99 σ = some (v, τ1) from t1, Option.bind_some, nI_clamp (by omega), hR, ix, kr77_24, kl88, if_pos (kf_ixN (by omega) (by decide)), nI_clamp (by omega), nI_1]
      exact u1
    · exact ((t3.mono (fun a b q => Or.inl q) (fun _ _ q => q)).tr (c1.mono (fun a b q => Or.inr ⟨q.1, by omega, by omega⟩) (fun _ _ q => q))).tr (u3.mono (fun a b q => q.elim Or.inl (fun q => Or.inr ⟨q.1, by omega, q.2.2⟩)) (fun _ _ q => q))
    · obtain ⟨w1, w2⟩ := u4 q
      have q0 := (kx_t3_0 m (kx_tk X 3 s) q).1
      obtain ⟨y1, y2⟩ := t4 q0
      have es : (kx_tk X 3 s).1 = s.1 + 1 := by rw [(kx_tk_0 q0).2.2.2]
      refine ⟨fun j hj => ?_, fun l hl hi => ?_⟩
      · by_cases j0 : j = 0
        · subst j0
          rw [u3.1 88 (24 * sd + 4 * n + p + 0) (by unfold kx_fM kx_nP; omega), Nat.add_zero, kp_wi_same, y1, Nat.add_zero]
        · have := w1 (j - 1) (by omega)
          rw [es, show 24 * sd + 4 * n + (p + 1) + (j - 1) = 24 * sd + 4 * n + p + j by omega, show s.1 + 1 + (j - 1) = s.1 + j by omega] at this
          exact this
      · obtain ⟨z1, z2⟩ := y2 l hl hi
        have := w2 _ (z1.m c1 ⟨by omega, by omega⟩) (by rw [es]; exact z2)
        rw [es, show s.1 + 1 + m = s.1 + (m + 1) by omega] at this
        exact this
theorem kM_fl200 {X : kx_X} {sd n : Nat} {tk : Int32} (hX : X.1 ≤ 2000) (hs : sd < 2) (hn : 20 * sd + 4 * n + 4 ≤ 40) : ∀ m p, p + m = 4 → ∀ f, m < f → ∀ s σ, kx_RM X s σ → σ.1 77 19 = nI sd → σ.1 89 sd = nI n → ∃ τ, f_X12_tellOne_200 f 77 tk (nI p) σ = f_X12_tellOne_200 (f - m) 77 tk (nI 4) τ ∧ kx_RM X (kx_t3 X m s) τ ∧ kx_fr (kx_fM 90 (20 * sd + 4 * n + p) (20 * sd + 4 * n + 4)) kx_n0 σ τ ∧ ((kx_t3 X m s).2 = 0 → (∀ j, j < m → τ.1 90 (20 * sd + 4 * n + p + j) = nI (kx_N X (s.1 + j))) ∧ ∀ l, kx_MS l σ → kx_li X l s.1 → kx_MS (kx_n4 X 0 99 m s l) τ ∧ kx_li X (kx_n4 X 0 99 m s l) (s.1 + m)) := by
  intro m
  induction m with
  | zero =>
    intro p hp f hf s σ h h19 hR
    have : p = 4 := by omega
    subst this
    exact ⟨σ, rfl, h, kx_fr.rf, fun _ => ⟨fun j hj => absurd hj (Nat.not_lt_zero j), fun l hl hi => ⟨hl, hi⟩⟩⟩
  | succ m ih =>
    intro p hp f hf s σ h h19 hR
    obtain ⟨f, rfl⟩ := kp_fuel (show 0 < f by omega)
    obtain ⟨v, τ1, t1, t2, t3, t4⟩ := kM_num (lo := 0) (hi := 99) hX h (by decide)
    have c1 : kx_fr (fun a b => a = 90 ∧ b = 20 * sd + 4 * n + p) kx_n0 τ1 (kf_wi τ1 90 (20 * sd + 4 * n + p) v) := kx_fr.rf.wi ⟨rfl, rfl⟩
    obtain ⟨τ2, u1, u2, u3, u4⟩ := ih (p + 1) (by omega) f (by omega) (kx_tk X 3 s) (kf_wi τ1 90 (20 * sd + 4 * n + p) v) (t2.big c1 (fun a b q => by omega) (fun _ _ q => q.elim)) ((c1.1 77 19 (by omega)).trans ((t3.1 77 19 (by unfold kx_nP; omega)).trans h19)) ((c1.1 89 sd (by omega)).trans ((t3.1 89 sd (by unfold kx_nP; omega)).trans hR))
    refine ⟨τ2, ?_, u2, ?_, fun q => ?_⟩
    · rw [show f + 1 - (m + 1) = f - m by omega]
      show f_X12_tellOne_200_s _ 77 tk (nI p) σ = _
      unfold f_X12_tellOne_200_s
      simp only [kz_lt]
      have ix : (20 : Int32) * nI sd + 4 * nI n + nI p = nI (20 * sd + 4 * n + p) := by rw [show (20 : Int32) = nI 20 from rfl, show (4 : Int32) = nI 4 from rfl, pk_mul, pk_mul, nI_add, nI_add]
      rw [if_neg (show ¬ (4 : Int32) ≤ nI p from nI_ge (b := 4) (by omega) (by decide)), h19, kr77_25, kl89, if_pos (kf_ixN (by omega) (by decide)), show f_X12_bounded 77 0 99 σ = some (v, τ1) from t1, Option.bind_some, nI_clamp (by omega), hR, ix, kr77_26, kl90, if_pos (kf_ixN (by omega) (by decide)), nI_clamp (by omega), nI_1]
      exact u1
    · exact ((t3.mono (fun a b q => Or.inl q) (fun _ _ q => q)).tr (c1.mono (fun a b q => Or.inr ⟨q.1, by omega, by omega⟩) (fun _ _ q => q))).tr (u3.mono (fun a b q => q.elim Or.inl (fun q => Or.inr ⟨q.1, by omega, q.2.2⟩)) (fun _ _ q => q))
    · obtain ⟨w1, w2⟩ := u4 q
      have q0 := (kx_t3_0 m (kx_tk X 3 s) q).1
      obtain ⟨y1, y2⟩ := t4 q0
      have es : (kx_tk X 3 s).1 = s.1 + 1 := by rw [(kx_tk_0 q0).2.2.2]
      refine ⟨fun j hj => ?_, fun l hl hi => ?_⟩
      · by_cases j0 : j = 0
        · subst j0
          rw [u3.1 90 (20 * sd + 4 * n + p + 0) (by unfold kx_fM kx_nP; omega), Nat.add_zero, kp_wi_same, y1, Nat.add_zero]
        · have := w1 (j - 1) (by omega)
          rw [es, show 20 * sd + 4 * n + (p + 1) + (j - 1) = 20 * sd + 4 * n + p + j by omega, show s.1 + 1 + (j - 1) = s.1 + j by omega] at this
          exact this
      · obtain ⟨z1, z2⟩ := y2 l hl hi
        have := w2 _ (z1.m c1 ⟨by omega, by omega⟩) (by rw [es]; exact z2)
        rw [es, show s.1 + 1 + m = s.1 + (m + 1) by omega] at this
        exact this
