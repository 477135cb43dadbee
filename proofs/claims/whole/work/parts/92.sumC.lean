/-! ===== pure: the class reads sums ===== -/
def kx_n0 (_ _ : Nat) : Prop := False
def kx_tP3 (a b : Nat) : Prop := a = 43 ∧ (b = 0 ∨ b = 4 ∨ b = 5)
def kx_RC (X : kx_X) (s : kx_S) (σ : kf_St) : Prop := kx_g X s ∧ (∀ j, kx_ok X j → kx_aC X j σ) ∧ σ.1 43 0 = nI s.2 ∧ σ.1 43 4 = nI s.1 ∧ σ.1 43 5 = nI (kx_K X s.1)
theorem kx_K_lt (X : kx_X) (n : Nat) : kx_K X n < 277 := kx_vk_lt (kx_to_vk X _)
theorem kx_aC.fr {X : kx_X} {j : Nat} {P Q : Nat → Nat → Prop} {σ τ : kf_St} (h : kx_aC X j σ) (c : kx_fr P Q σ τ) (h4 : ∀ b, ¬ P 4 b) (h5 : ∀ b, ¬ P 5 b) (h6 : ∀ b, ¬ Q 6 b) : kx_aC X j τ := ⟨(c.1 4 j (h4 j)).trans h.1, (c.1 5 j (h5 j)).trans h.2.1, (c.2 6 j (h6 j)).trans h.2.2⟩
theorem kx_RC.fr {X : kx_X} {s : kx_S} {P Q : Nat → Nat → Prop} {σ τ : kf_St} (h : kx_RC X s σ) (c : kx_fr P Q σ τ) (h3 : ¬ P 43 0 ∧ ¬ P 43 4 ∧ ¬ P 43 5) (h4 : ∀ b, ¬ P 4 b) (h5 : ∀ b, ¬ P 5 b) (h6 : ∀ b, ¬ Q 6 b) : kx_RC X s τ := ⟨h.1, fun j hj => (h.2.1 j hj).fr c h4 h5 h6, (c.1 43 0 h3.1).trans h.2.2.1, (c.1 43 4 h3.2.1).trans h.2.2.2.1, (c.1 43 5 h3.2.2).trans h.2.2.2.2⟩
theorem kC_take {X : kx_X} {s : kx_S} {σ : kf_St} {d : Nat} (h : kx_RC X s σ) (hd : d ≠ 0 ∧ d ≠ 1) (hd2 : d < 300) : ∃ τ, f_X6_take 43 (nI d) σ = some τ ∧ kx_RC X (kx_tk X d s) τ ∧ kx_fr kx_tP3 kx_n0 σ τ := by
  obtain ⟨hg, ha, h0, h4, h5⟩ := h
  have g' := kx_tk_g (d := d) hd hg
  have t4 := hg.1.1
  have kl := kx_K_lt X s.1
  unfold f_X6_take f_X6_take_90 f_X6_take_91
  simp only [kz_lt]
  rw [h0, h5, h4]
  by_cases c0 : s.2 = 0
  · rw [if_pos (show nI s.2 = 0 by rw [c0]; rfl)]
    by_cases c1 : kx_K X s.1 = d
    · rw [if_pos (show nI (kx_K X s.1) = nI d by rw [c1])]
      by_cases c2 : s.1 < 400
      · rw [if_pos (show nI s.1 < 400 from nI_lt (b := 400) c2 (by decide)), nI_1, kp_wi_same, if_neg (nI_pos (by omega)), kr43_2, kr1_3, kl4, if_neg (nI_ge (by omega) (by decide)), if_pos (kf_ixN (by omega) (by decide)), nI_clamp (by omega), kp_wi_row (by decide)]
        rw [kx_tk_1 c0 c1 c2] at g' ⊢
        have cc : kx_fr kx_tP3 kx_n0 σ (kf_wi (kf_wi σ 43 4 (nI (s.1 + 1))) 43 5 (σ.1 4 (s.1 + 1))) := (kx_fr.rf.wi (by unfold kx_tP3; omega)).wi (by unfold kx_tP3; omega)
        refine ⟨_, rfl, ⟨g', fun j hj => (ha j hj).fr cc (fun b => by unfold kx_tP3; omega) (fun b => by unfold kx_tP3; omega) (fun b q => q), ?_, ?_, ?_⟩, cc⟩
        · rw [kp_wi_ne (by omega), kp_wi_ne (by omega), h0, c0]
        · rw [kp_wi_ne (by omega), kp_wi_same]
        · rw [kp_wi_same]
          exact (ha (s.1 + 1) g'.1).1
      · rw [if_neg (show ¬ nI s.1 < 400 from nI_nlt (b := 400) (by omega) (by omega))]
        rw [kx_tk_2 c0 c1 c2] at g' ⊢
        have cc : kx_fr kx_tP3 kx_n0 σ (kf_wi σ 43 0 2) := kx_fr.rf.wi (by unfold kx_tP3; omega)
        exact ⟨_, rfl, ⟨g', fun j hj => (ha j hj).fr cc (fun b => by unfold kx_tP3; omega) (fun b => by unfold kx_tP3; omega) (fun b q => q), kp_wi_same _ _ _ _, (kp_wi_ne (by omega)).trans h4, (kp_wi_ne (by omega)).trans h5⟩, cc⟩
    · rw [if_neg (fun e => c1 ((nI_eq (by omega) (by omega)).mp e))]
      rw [kx_tk_3 c0 c1] at g' ⊢
      have cc : kx_fr kx_tP3 kx_n0 σ (kf_wi σ 43 0 1) := kx_fr.rf.wi (by unfold kx_tP3; omega)
      exact ⟨_, rfl, ⟨g', fun j hj => (ha j hj).fr cc (fun b => by unfold kx_tP3; omega) (fun b => by unfold kx_tP3; omega) (fun b q => q), kp_wi_same _ _ _ _, (kp_wi_ne (by omega)).trans h4, (kp_wi_ne (by omega)).trans h5⟩, cc⟩
  · have f2 := hg.2
    rw [if_neg (show ¬ nI s.2 = 0 from nI_ne0 (by omega) (by omega)), kx_tk_f c0]
    exact ⟨σ, rfl, ⟨hg, ha, h0, h4, h5⟩, kx_fr.rf⟩
theorem kC_fail {X : kx_X} {s : kx_S} {σ : kf_St} {k : Nat} (h : kx_RC X s σ) (hk : 0 < k ∧ k ≤ 2) : ∃ τ, f_X6_fail 43 (nI k) σ = some τ ∧ kx_RC X (if s.2 = 0 then (s.1, k) else s) τ ∧ kx_fr kx_tP3 kx_n0 σ τ := by
  obtain ⟨hg, ha, h0, h4, h5⟩ := h
  have f2 := hg.2
  unfold f_X6_fail
  simp only [kz_lt]
  rw [h0]
  by_cases c0 : s.2 = 0
  · rw [if_pos (show nI s.2 = 0 by rw [c0]; rfl), if_pos c0]
    have cc : kx_fr kx_tP3 kx_n0 σ (kf_wi σ 43 0 (nI k)) := kx_fr.rf.wi (by unfold kx_tP3; omega)
    exact ⟨_, rfl, ⟨⟨hg.1, hk.2⟩, fun j hj => (ha j hj).fr cc (fun b => by unfold kx_tP3; omega) (fun b => by unfold kx_tP3; omega) (fun b q => q), kp_wi_same _ _ _ _, (kp_wi_ne (by omega)).trans h4, (kp_wi_ne (by omega)).trans h5⟩, cc⟩
  · rw [if_neg (show ¬ nI s.2 = 0 from nI_ne0 (by omega) (by omega)), if_neg c0]
    exact ⟨σ, rfl, ⟨hg, ha, h0, h4, h5⟩, kx_fr.rf⟩
/-! the law that is being read -/
def kx_lP (a r b : Nat) : Prop := kx_tP3 r b ∨ r = a ∨ r = a + 1
def kx_LA (a : Nat) (cs : List kx_o) (σ : kf_St) : Prop := σ.1 a 0 = nI cs.length ∧ kx_ca (σ.1 (a + 1)) 0 cs
def kx_RL (X : kx_X) (a e : Nat) (s : kx_S) (cs : List kx_o) (σ : kf_St) : Prop := kx_RC X s σ ∧ (∃ n, n ≤ 401 ∧ σ.1 a 0 = nI n) ∧ (s.2 = 0 → kx_LA a cs σ ∧ cs.length + e ≤ s.1)
def kx_ld (a : Nat) : Prop := 25 < a ∧ a + 2 < 43 ∧ kf_rf a 1 = a + 1 ∧ kf_ln (a + 1) = 401
theorem kx_RL.tk {X : kx_X} {a e : Nat} {s s' : kx_S} {cs : List kx_o} {σ τ : kf_St} (ha : kx_ld a) (h : kx_RL X a e s cs σ) (r : kx_RC X s' τ) (c : kx_fr kx_tP3 kx_n0 σ τ) {e' : Nat} (hs : s'.2 = 0 → s.2 = 0 ∧ s.1 + e' ≤ s'.1 + e) : kx_RL X a e' s' cs τ := by
  obtain ⟨a1, a2, -, -⟩ := ha
  have r0 : τ.1 a = σ.1 a := c.row (fun b => by unfold kx_tP3; omega)
  have r1 : τ.1 (a + 1) = σ.1 (a + 1) := c.row (fun b => by unfold kx_tP3; omega)
  refine ⟨r, ?_, fun q => ?_⟩
  · rw [r0]; exact h.2.1
  · obtain ⟨z1, z2⟩ := hs q
    obtain ⟨⟨y1, y2⟩, y3⟩ := h.2.2 z1
    refine ⟨⟨?_, ?_⟩, by omega⟩
    · rw [r0]; exact y1
    · rw [r1]; exact y2
theorem kC_take' {X : kx_X} {a e : Nat} {s : kx_S} {cs : List kx_o} {σ : kf_St} {d : Nat} (ha : kx_ld a) (h : kx_RL X a e s cs σ) (hd : d ≠ 0 ∧ d ≠ 1) (hd2 : d < 300) : ∃ τ, f_X6_take 43 (nI d) σ = some τ ∧ kx_RL X a (e + 1) (kx_tk X d s) cs τ ∧ kx_fr kx_tP3 kx_n0 σ τ := by
  obtain ⟨τ, t1, t2, t3⟩ := kC_take h.1 hd hd2
  refine ⟨τ, t1, h.tk ha t2 t3 (fun q => ?_), t3⟩
  obtain ⟨z1, z2, z3, z4⟩ := kx_tk_0 q
  rw [z4]
  exact ⟨z1, by show s.1 + (e + 1) ≤ s.1 + 1 + e; omega⟩
theorem kx_RL.le {X : kx_X} {a e e' : Nat} {s : kx_S} {cs : List kx_o} {σ : kf_St} (h : kx_RL X a e s cs σ) (he : e' ≤ e) : kx_RL X a e' s cs σ := ⟨h.1, h.2.1, fun q => ⟨(h.2.2 q).1, by have := (h.2.2 q).2; omega⟩⟩
theorem kC_put {a k v : Nat} {cs : List kx_o} {σ : kf_St} (ha : kx_ld a) (hk : k < 8) (hv : v < 2 ^ 20) (hn : ∃ n, n ≤ 401 ∧ σ.1 a 0 = nI n) : ∃ τ, f_X2_put a (nI k) (nI v) σ = some τ ∧ (∃ n, n ≤ 401 ∧ τ.1 a 0 = nI n) ∧ (kx_LA a cs σ → cs.length < 401 → kx_LA a (cs ++ [(k, v)]) τ) ∧ kx_fr (fun r _ => r = a ∨ r = a + 1) kx_n0 σ τ := by
  obtain ⟨a1, a2, ra, la⟩ := ha
  obtain ⟨n, n1, n2⟩ := hn
  unfold f_X2_put
  simp only [kz_lt]
  rw [ra, la, n2, kx_enc hv hk]
  by_cases c : n < 401
  · rw [if_neg (nI_ge c (by decide)), if_pos (kf_ixN c (by decide)), nI_clamp (by omega), kp_wi_row (by omega), n2, nI_1]
    refine ⟨_, rfl, ⟨n + 1, by omega, kp_wi_same _ _ _ _⟩, fun h hc => ?_, (kx_fr.rf.wi (Or.inr rfl)).wi (Or.inl rfl)⟩
    obtain ⟨h1, h2⟩ := h
    have e : n = cs.length := (nI_eq (by omega) (by omega)).mp (n2.symm.trans h1)
    subst e
    refine ⟨?_, ?_⟩
    · rw [kp_wi_same, List.length_append]; rfl
    · refine (kx_ca_app _ cs).mpr ⟨kx_ca_c cs (fun i _ hi => ?_) h2, ?_, True.intro⟩
      · rw [kp_wi_row (by omega), kp_wi_ne (by omega)]
      · rw [Nat.zero_add, kp_wi_row (by omega), kp_wi_same]
  · rw [if_pos (nI_le (by omega) (by omega))]
    refine ⟨σ, rfl, ⟨n, n1, n2⟩, fun h hc => ?_, kx_fr.rf⟩
    have e : n = cs.length := (nI_eq (by omega) (by omega)).mp (n2.symm.trans h.1)
    omega
theorem kx_fr.lp {a : Nat} {σ τ : kf_St} (c : kx_fr kx_tP3 kx_n0 σ τ) : kx_fr (kx_lP a) kx_n0 σ τ := c.mono (fun _ _ h => Or.inl h) (fun _ _ h => h)
theorem kx_fr.la {a : Nat} {σ τ : kf_St} (c : kx_fr (fun r _ => r = a ∨ r = a + 1) kx_n0 σ τ) : kx_fr (kx_lP a) kx_n0 σ τ := c.mono (fun _ _ h => Or.inr h) (fun _ _ h => h)
theorem kx_RC.la {X : kx_X} {a : Nat} {s : kx_S} {σ τ : kf_St} (ha : kx_ld a) (h : kx_RC X s σ) (c : kx_fr (fun r _ => r = a ∨ r = a + 1) kx_n0 σ τ) : kx_RC X s τ := by
  obtain ⟨a1, a2, -, -⟩ := ha
  exact h.fr c ⟨by omega, by omega, by omega⟩ (fun b => by omega) (fun b => by omega) (fun b q => q)
theorem kC_put' {X : kx_X} {a e k v : Nat} {s : kx_S} {cs : List kx_o} {σ : kf_St} (ha : kx_ld a) (hk : k < 8) (hv : v < 2 ^ 20) (h : kx_RL X a (e + 1) s cs σ) : ∃ τ, f_X2_put a (nI k) (nI v) σ = some τ ∧ kx_RL X a e s (cs ++ [(k, v)]) τ ∧ kx_fr (kx_lP a) kx_n0 σ τ := by
  obtain ⟨τ, t1, t2, t3, t4⟩ := kC_put (cs := cs) ha hk hv h.2.1
  refine ⟨τ, t1, ⟨h.1.la ha t4, t2, fun q => ?_⟩, t4.la⟩
  obtain ⟨y1, y2⟩ := h.2.2 q
  have t400 := h.1.1.1.1
  exact ⟨t3 y1 (by omega), by rw [List.length_append]; show cs.length + 1 + e ≤ s.1; omega⟩
/-- put, then take -/
theorem kC_putk {X : kx_X} {a e k v d : Nat} {s : kx_S} {cs : List kx_o} {σ : kf_St} (ha : kx_ld a) (hk : k < 8) (hv : v < 2 ^ 20) (hd : d ≠ 0 ∧ d ≠ 1) (hd2 : d < 300) (h : kx_RL X a e s cs σ) : ∃ τ1 τ, f_X2_put a (nI k) (nI v) σ = some τ1 ∧ f_X6_take 43 (nI d) τ1 = some τ ∧ kx_RL X a e (kx_tk X d s) (cs ++ [(k, v)]) τ ∧ kx_fr (kx_lP a) kx_n0 σ τ := by
  obtain ⟨τ1, t1, t2, t3, t4⟩ := kC_put (cs := cs) ha hk hv h.2.1
  obtain ⟨τ, u1, u2, u3⟩ := kC_take (h.1.la ha t4) hd hd2
  obtain ⟨a1, a2, -, -⟩ := ha
  have r0 : τ.1 a = τ1.1 a := u3.row (fun b => by unfold kx_tP3; omega)
  have r1 : τ.1 (a + 1) = τ1.1 (a + 1) := u3.row (fun b => by unfold kx_tP3; omega)
  refine ⟨τ1, τ, t1, u1, ⟨u2, ?_, fun q => ?_⟩, t4.la.tr u3.lp⟩
  · rw [r0]; exact t2
  · obtain ⟨z1, z2, z3, z4⟩ := kx_tk_0 q
    obtain ⟨y1, y2⟩ := h.2.2 z1
    obtain ⟨w1, w2⟩ := t3 y1 (by omega)
    rw [z4]
    refine ⟨⟨?_, ?_⟩, ?_⟩
    · rw [r0]; exact w1
    · rw [r1]; exact w2
    · rw [List.length_append]; show cs.length + 1 + e ≤ s.1 + 1; omega
def kx_rd (X : kx_X) (a : Nat) (F : kf_St → Option kf_St) (u : kx_S → kx_S × List kx_o) : Prop := ∀ e s cs σ, kx_RL X a e s cs σ → ∃ τ, F σ = some τ ∧ kx_RL X a e (u s).1 (cs ++ (u s).2) τ ∧ kx_fr (kx_lP a) kx_n0 σ τ
theorem kx_RL.nil {X : kx_X} {a e : Nat} {s : kx_S} {cs : List kx_o} {σ : kf_St} (h : kx_RL X a e s cs σ) : kx_RL X a e s (cs ++ []) σ := by rw [List.append_nil]; exact h
theorem kx_RL.bad {X : kx_X} {a e e' : Nat} {s : kx_S} {cs cs' : List kx_o} {σ : kf_St} (h : kx_RL X a e s cs σ) (hs : s.2 ≠ 0) : kx_RL X a e' s cs' σ := ⟨h.1, h.2.1, fun q => absurd q hs⟩
theorem kC_val {X : kx_X} {s : kx_S} {σ : kf_St} (h : kx_RC X s σ) : f_X8_valueAt 1 (nI s.1) σ = some (kx_V X s.1, σ) := by
  have t4 := h.1.1.1
  unfold f_X8_valueAt
  rw [kr1_5, kl6, if_neg (nI_pos (by omega)), if_neg (nI_ge (by omega) (by decide)), if_pos (kf_ixN (by omega) (by decide)), nI_clamp (by omega), (h.2.1 s.1 h.1.1).2.2]
theorem kx_v32 {n : Nat} (h : n < 10000) : Int64.toInt32 (Int64.ofNat n) = nI n := by
  apply Int32.toBitVec_inj.mp
  apply BitVec.eq_of_toNat_eq
  have e1 : (Int64.toInt32 (Int64.ofNat n)).toBitVec = (BitVec.ofNat 64 n).signExtend 32 := rfl
  have e2 : (nI n).toBitVec = BitVec.ofNat 32 n := rfl
  rw [e1, e2, BitVec.signExtend_eq_setWidth_of_le _ (by decide), BitVec.toNat_setWidth, BitVec.toNat_ofNat, BitVec.toNat_ofNat]
  omega
theorem kC_unit {X : kx_X} {a n : Nat} {rs : Nat → Nat → Int32 → kf_St → Option kf_St} {u : Nat → kx_S → kx_S × List kx_o} (ha : kx_ld a) (hn : n ≤ 6) (hr : n < 6 → kx_rd X a (rs 43 a (nI (n + 1))) (u (n + 1))) : kx_rd X a (f_X6_readUnit rs 43 a (nI n)) (kx_un X u n) := by
  intro e s cs σ h
  have kl := kx_K_lt X s.1
  have f2 := h.1.1.2
  unfold f_X6_readUnit f_X6_readUnit_75
  simp only [kz_lt]
  rw [h.1.2.2.1, h.1.2.2.2.2, h.1.2.2.2.1, kr43_2]
  unfold kx_un
  by_cases c0 : s.2 = 0
  · rw [if_pos (show nI s.2 = 0 by rw [c0]; rfl), if_pos c0]
    by_cases c1 : kx_K X s.1 = 3
    · rw [if_pos (show nI (kx_K X s.1) = 3 by rw [c1]; rfl), if_pos c1]
      obtain ⟨n3, v3⟩ := kx_N3 c1
      obtain ⟨τ1, τ, t1, t2, t3, t4⟩ := kC_putk (k := 0) (v := kx_N X s.1) (d := 3) ha (by decide) (by omega) (by decide) (by decide) h
      refine ⟨τ, ?_, t3, t4⟩
      rw [kC_val h.1, Option.bind_some]
      dsimp only
      rw [v3, kx_v32 n3, show (0 : Int32) = nI 0 from rfl, t1, Option.bind_some, c1, t2, Option.bind_some]
    · rw [if_neg (show ¬ nI (kx_K X s.1) = 3 from fun q => c1 ((nI_eq (b := 3) (by omega) (by decide)).mp q)), if_neg c1]
      by_cases c2 : 268 ≤ kx_K X s.1 ∧ kx_K X s.1 ≤ 276
      · rw [if_neg (show ¬ nI (kx_K X s.1) < 268 from nI_nlt (b := 268) c2.1 (by omega)), if_neg (show ¬ (276 : Int32) < nI (kx_K X s.1) from nI_nlt (a := 276) c2.2 (by decide)), if_pos c2]
        obtain ⟨τ1, τ, t1, t2, t3, t4⟩ := kC_putk (k := 1) (v := kx_K X s.1 - 268) (d := kx_K X s.1) ha (by decide) (by omega) (by omega) (by omega) h
        refine ⟨τ, ?_, t3, t4⟩
        rw [show nI (kx_K X s.1) - 268 = nI (kx_K X s.1 - 268) from pk_sub (b := 268) c2.1, show (1 : Int32) = nI 1 from rfl, t1, Option.bind_some, t2, Option.bind_some]
      · rw [if_neg c2]
        have drop : ∀ z : Option kf_St, (if nI (kx_K X s.1) < 268 then z else if (276 : Int32) < nI (kx_K X s.1) then z else (f_X2_put a 1 (nI (kx_K X s.1) - 268) σ).bind fun q_6 => (f_X6_take 43 (nI (kx_K X s.1)) q_6).bind fun q_7 => some q_7) = z := by
          intro z
          by_cases q1 : kx_K X s.1 < 268
          · rw [if_pos (show nI (kx_K X s.1) < 268 from nI_lt (b := 268) q1 (by decide))]
          · rw [if_neg (show ¬ nI (kx_K X s.1) < 268 from nI_nlt (b := 268) (by omega) (by omega)), if_pos (show (276 : Int32) < nI (kx_K X s.1) from nI_lt (a := 276) (by omega) (by omega))]
        rw [drop]
        by_cases c3 : kx_K X s.1 = 40
        · rw [if_pos (show nI (kx_K X s.1) = 40 by rw [c3]; rfl), if_pos c3]
          by_cases c4 : n < 6
          · rw [if_pos (show nI n < 6 from nI_lt (b := 6) c4 (by decide)), if_pos c4]
            obtain ⟨τ1, t1, t2, t3⟩ := kC_take' (d := 40) ha h (by decide) (by decide)
            obtain ⟨τ2, u1, u2, u3⟩ := hr c4 _ _ _ _ t2
            obtain ⟨τ3, v1, v2, v3⟩ := kC_take' (d := 41) ha u2 (by decide) (by decide)
            refine ⟨τ3, ?_, v2.le (by omega), (t3.lp.tr u3).tr v3.lp⟩
            rw [show (40 : Int32) = nI 40 from rfl, t1, Option.bind_some, nI_1, u1, Option.bind_some, show (41 : Int32) = nI 41 from rfl, v1, Option.bind_some]
          · rw [if_neg (show ¬ nI n < 6 from nI_nlt (b := 6) (by omega) (by omega)), if_neg c4]
            obtain ⟨τ, t1, t2, t3⟩ := kC_fail (k := 2) h.1 (by decide)
            rw [if_pos c0] at t2
            refine ⟨τ, ?_, ?_, t3.lp⟩
            · rw [show (2 : Int32) = nI 2 from rfl, t1, Option.bind_some]
            · exact h.tk ha t2 t3 (fun q => absurd q (by show ¬ 2 = 0; decide)) |>.nil
        · rw [if_neg (show ¬ nI (kx_K X s.1) = 40 from fun q => c3 ((nI_eq (b := 40) (by omega) (by decide)).mp q)), if_neg c3]
          obtain ⟨τ, t1, t2, t3⟩ := kC_fail (k := 1) h.1 (by decide)
          rw [if_pos c0] at t2
          refine ⟨τ, ?_, ?_, t3.lp⟩
          · rw [show (1 : Int32) = nI 1 from rfl, t1, Option.bind_some]
          · exact h.tk ha t2 t3 (fun q => absurd q (by show ¬ 1 = 0; decide)) |>.nil
  · rw [if_neg (show ¬ nI s.2 = 0 from nI_ne0 (by omega) (by omega)), if_neg c0]
    exact ⟨σ, rfl, h.nil, kx_fr.rf⟩
theorem kC_lpProduct {X : kx_X} {a n : Nat} {rs : Nat → Nat → Int32 → kf_St → Option kf_St} {u : kx_S → kx_S × List kx_o} (ha : kx_ld a) (hu : kx_rd X a (f_X6_readUnit rs 43 a (nI n)) u) : ∀ g i, i + g = 400 → ∀ f, g < f → ∀ e p cs σ, kx_RL X a e p.1 (cs ++ p.2) σ → ∃ τ, f_X6_readProduct_8 rs f 43 a (nI n) (nI i) σ = some τ ∧ kx_RL X a e (kx_lp X 42 47 4 5 u g p).1 (cs ++ (kx_lp X 42 47 4 5 u g p).2) τ ∧ kx_fr (kx_lP a) kx_n0 σ τ := by
  intro g
  induction g with
  | zero =>
    intro i hi f hf e p cs σ h
    obtain ⟨f, rfl⟩ := kp_fuel hf
    refine ⟨σ, ?_, h, kx_fr.rf⟩
    show f_X6_readProduct_8_s rs _ 43 a (nI n) (nI i) σ = _
    unfold f_X6_readProduct_8_s
    rw [if_pos (show (400 : Int32) ≤ nI i from nI_le (a := 400) (by omega) (by omega))]
  | succ g ih =>
    intro i hi f hf e p cs σ h
    obtain ⟨f, rfl⟩ := kp_fuel (show 0 < f by omega)
    have kl := kx_K_lt X p.1.1
    have f2 := h.1.1.2
    show ∃ τ, f_X6_readProduct_8_s rs (f_X6_readProduct_8 rs f) 43 a (nI n) (nI i) σ = some τ ∧ kx_RL X a e (if p.1.2 = 0 ∧ (kx_K X p.1.1 = 42 ∨ kx_K X p.1.1 = 47) then kx_lp X 42 47 4 5 u g ((u (kx_tk X (kx_K X p.1.1) p.1)).1, p.2 ++ (u (kx_tk X (kx_K X p.1.1) p.1)).2 ++ [(if kx_K X p.1.1 = 42 then 4 else 5, 0)]) else p).1 (cs ++ (if p.1.2 = 0 ∧ (kx_K X p.1.1 = 42 ∨ kx_K X p.1.1 = 47) then kx_lp X 42 47 4 5 u g ((u (kx_tk X (kx_K X p.1.1) p.1)).1, p.2 ++ (u (kx_tk X (kx_K X p.1.1) p.1)).2 ++ [(if kx_K X p.1.1 = 42 then 4 else 5, 0)]) else p).2) τ ∧ kx_fr (kx_lP a) kx_n0 σ τ
    unfold f_X6_readProduct_8_s
    rw [if_neg (show ¬ (400 : Int32) ≤ nI i from nI_ge (b := 400) (by omega) (by decide)), h.1.2.2.1, h.1.2.2.2.2]
    by_cases c0 : p.1.2 = 0
    · rw [if_pos (show nI p.1.2 = 0 by rw [c0]; rfl)]
      have body : (kx_K X p.1.1 = 42 ∨ kx_K X p.1.1 = 47) → ∃ τ, f_X6_readProduct_40 rs (f_X6_readProduct_8 rs f) 43 a (nI n) (nI i) σ = some τ ∧ kx_RL X a e (kx_lp X 42 47 4 5 u g ((u (kx_tk X (kx_K X p.1.1) p.1)).1, p.2 ++ (u (kx_tk X (kx_K X p.1.1) p.1)).2 ++ [(if kx_K X p.1.1 = 42 then 4 else 5, 0)])).1 (cs ++ (kx_lp X 42 47 4 5 u g ((u (kx_tk X (kx_K X p.1.1) p.1)).1, p.2 ++ (u (kx_tk X (kx_K X p.1.1) p.1)).2 ++ [(if kx_K X p.1.1 = 42 then 4 else 5, 0)])).2) τ ∧ kx_fr (kx_lP a) kx_n0 σ τ := by
        intro hK
        obtain ⟨τ1, t1, t2, t3⟩ := kC_take' (d := kx_K X p.1.1) ha h (by omega) (by omega)
        obtain ⟨τ2, u1, u2, u3⟩ := hu _ _ _ _ t2
        obtain ⟨τ3, v1, v2, v3⟩ := kC_put' (k := if kx_K X p.1.1 = 42 then 4 else 5) (v := 0) ha (by by_cases q : kx_K X p.1.1 = 42 <;> simp [q]) (by decide) u2
        rw [List.append_assoc, List.append_assoc] at v2
        rw [← List.append_assoc p.2] at v2
        obtain ⟨τ4, w1, w2, w3⟩ := ih (i + 1) (by omega) f (by omega) e ((u (kx_tk X (kx_K X p.1.1) p.1)).1, p.2 ++ (u (kx_tk X (kx_K X p.1.1) p.1)).2 ++ [(if kx_K X p.1.1 = 42 then 4 else 5, 0)]) cs τ3 v2
        refine ⟨τ4, ?_, w2, ((t3.lp.tr u3).tr v3).tr w3⟩
        unfold f_X6_readProduct_40 f_X6_readProduct_71
        simp only [kz_lt]
        rw [h.1.2.2.2.2, t1, Option.bind_some, u1, Option.bind_some]
        by_cases q : kx_K X p.1.1 = 42
        · rw [if_pos (show nI (kx_K X p.1.1) = 42 by rw [q]; rfl)]
          rw [if_pos q] at v1
          rw [show (4 : Int32) = nI 4 from rfl, show (0 : Int32) = nI 0 from rfl, v1, Option.bind_some, nI_1, w1]
        · rw [if_neg (show ¬ nI (kx_K X p.1.1) = 42 from fun z => q ((nI_eq (b := 42) (by omega) (by decide)).mp z))]
          rw [if_neg q] at v1
          rw [show (5 : Int32) = nI 5 from rfl, show (0 : Int32) = nI 0 from rfl, v1, Option.bind_some, nI_1, w1]
      by_cases c1 : kx_K X p.1.1 = 42
      · rw [if_pos (show nI (kx_K X p.1.1) = 42 by rw [c1]; rfl), if_pos ⟨c0, Or.inl c1⟩]
        exact body (Or.inl c1)
      · rw [if_neg (show ¬ nI (kx_K X p.1.1) = 42 from fun z => c1 ((nI_eq (b := 42) (by omega) (by decide)).mp z))]
        by_cases c2 : kx_K X p.1.1 = 47
        · rw [if_pos (show nI (kx_K X p.1.1) = 47 by rw [c2]; rfl), if_pos ⟨c0, Or.inr c2⟩]
          exact body (Or.inr c2)
        · rw [if_neg (show ¬ nI (kx_K X p.1.1) = 47 from fun z => c2 ((nI_eq (b := 47) (by omega) (by decide)).mp z)), if_neg (fun q => by rcases q.2 with z | z; exact c1 z; exact c2 z)]
          exact ⟨σ, rfl, h, kx_fr.rf⟩
    · rw [if_neg (show ¬ nI p.1.2 = 0 from nI_ne0 (by omega) (by omega)), if_neg (fun q => c0 q.1)]
      exact ⟨σ, rfl, h, kx_fr.rf⟩
theorem kC_lpSum {X : kx_X} {a n : Nat} {rs : Nat → Nat → Int32 → kf_St → Option kf_St} {u : kx_S → kx_S × List kx_o} (ha : kx_ld a) (hu : kx_rd X a (f_X6_readProduct rs 43 a (nI n)) u) : ∀ g i, i + g = 400 → ∀ f, g < f → ∀ e p cs σ, kx_RL X a e p.1 (cs ++ p.2) σ → ∃ τ, f_X6_readSum_8 rs f 43 a (nI n) (nI i) σ = some τ ∧ kx_RL X a e (kx_lp X 43 45 2 3 u g p).1 (cs ++ (kx_lp X 43 45 2 3 u g p).2) τ ∧ kx_fr (kx_lP a) kx_n0 σ τ := by
  intro g
  induction g with
  | zero =>
    intro i hi f hf e p cs σ h
    obtain ⟨f, rfl⟩ := kp_fuel hf
    refine ⟨σ, ?_, h, kx_fr.rf⟩
    show f_X6_readSum_8_s rs _ 43 a (nI n) (nI i) σ = _
    unfold f_X6_readSum_8_s
    rw [if_pos (show (400 : Int32) ≤ nI i from nI_le (a := 400) (by omega) (by omega))]
  | succ g ih =>
    intro i hi f hf e p cs σ h
    obtain ⟨f, rfl⟩ := kp_fuel (show 0 < f by omega)
    have kl := kx_K_lt X p.1.1
    have f2 := h.1.1.2
    show ∃ τ, f_X6_readSum_8_s rs (f_X6_readSum_8 rs f) 43 a (nI n) (nI i) σ = some τ ∧ kx_RL X a e (if p.1.2 = 0 ∧ (kx_K X p.1.1 = 43 ∨ kx_K X p.1.1 = 45) then kx_lp X 43 45 2 3 u g ((u (kx_tk X (kx_K X p.1.1) p.1)).1, p.2 ++ (u (kx_tk X (kx_K X p.1.1) p.1)).2 ++ [(if kx_K X p.1.1 = 43 then 2 else 3, 0)]) else p).1 (cs ++ (if p.1.2 = 0 ∧ (kx_K X p.1.1 = 43 ∨ kx_K X p.1.1 = 45) then kx_lp X 43 45 2 3 u g ((u (kx_tk X (kx_K X p.1.1) p.1)).1, p.2 ++ (u (kx_tk X (kx_K X p.1.1) p.1)).2 ++ [(if kx_K X p.1.1 = 43 then 2 else 3, 0)]) else p).2) τ ∧ kx_fr (kx_lP a) kx_n0 σ τ
    unfold f_X6_readSum_8_s
    rw [if_neg (show ¬ (400 : Int32) ≤ nI i from nI_ge (b := 400) (by omega) (by decide)), h.1.2.2.1, h.1.2.2.2.2]
    by_cases c0 : p.1.2 = 0
    · rw [if_pos (show nI p.1.2 = 0 by rw [c0]; rfl)]
      have body : (kx_K X p.1.1 = 43 ∨ kx_K X p.1.1 = 45) → ∃ τ, f_X6_readSum_40 rs (f_X6_readSum_8 rs f) 43 a (nI n) (nI i) σ = some τ ∧ kx_RL X a e (kx_lp X 43 45 2 3 u g ((u (kx_tk X (kx_K X p.1.1) p.1)).1, p.2 ++ (u (kx_tk X (kx_K X p.1.1) p.1)).2 ++ [(if kx_K X p.1.1 = 43 then 2 else 3, 0)])).1 (cs ++ (kx_lp X 43 45 2 3 u g ((u (kx_tk X (kx_K X p.1.1) p.1)).1, p.2 ++ (u (kx_tk X (kx_K X p.1.1) p.1)).2 ++ [(if kx_K X p.1.1 = 43 then 2 else 3, 0)])).2) τ ∧ kx_fr (kx_lP a) kx_n0 σ τ := by
        intro hK
        obtain ⟨τ1, t1, t2, t3⟩ := kC_take' (d := kx_K X p.1.1) ha h (by omega) (by omega)
        obtain ⟨τ2, u1, u2, u3⟩ := hu _ _ _ _ t2
        obtain ⟨τ3, v1, v2, v3⟩ := kC_put' (k := if kx_K X p.1.1 = 43 then 2 else 3) (v := 0) ha (by by_cases q : kx_K X p.1.1 = 43 <;> simp [q]) (by decide) u2
        rw [List.append_assoc, List.append_assoc] at v2
        rw [← List.append_assoc p.2] at v2
        obtain ⟨τ4, w1, w2, w3⟩ := ih (i + 1) (by omega) f (by omega) e ((u (kx_tk X (kx_K X p.1.1) p.1)).1, p.2 ++ (u (kx_tk X (kx_K X p.1.1) p.1)).2 ++ [(if kx_K X p.1.1 = 43 then 2 else 3, 0)]) cs τ3 v2
        refine ⟨τ4, ?_, w2, ((t3.lp.tr u3).tr v3).tr w3⟩
        unfold f_X6_readSum_40 f_X6_readSum_71
        simp only [kz_lt]
        rw [h.1.2.2.2.2, t1, Option.bind_some, u1, Option.bind_some]
        by_cases q : kx_K X p.1.1 = 43
        · rw [if_pos (show nI (kx_K X p.1.1) = 43 by rw [q]; rfl)]
          rw [if_pos q] at v1
          rw [show (2 : Int32) = nI 2 from rfl, show (0 : Int32) = nI 0 from rfl, v1, Option.bind_some, nI_1, w1]
        · rw [if_neg (show ¬ nI (kx_K X p.1.1) = 43 from fun z => q ((nI_eq (b := 43) (by omega) (by decide)).mp z))]
          rw [if_neg q] at v1
          rw [show (3 : Int32) = nI 3 from rfl, show (0 : Int32) = nI 0 from rfl, v1, Option.bind_some, nI_1, w1]
      by_cases c1 : kx_K X p.1.1 = 43
      · rw [if_pos (show nI (kx_K X p.1.1) = 43 by rw [c1]; rfl), if_pos ⟨c0, Or.inl c1⟩]
        exact body (Or.inl c1)
      · rw [if_neg (show ¬ nI (kx_K X p.1.1) = 43 from fun z => c1 ((nI_eq (b := 43) (by omega) (by decide)).mp z))]
        by_cases c2 : kx_K X p.1.1 = 45
        · rw [if_pos (show nI (kx_K X p.1.1) = 45 by rw [c2]; rfl), if_pos ⟨c0, Or.inr c2⟩]
          exact body (Or.inr c2)
        · rw [if_neg (show ¬ nI (kx_K X p.1.1) = 45 from fun z => c2 ((nI_eq (b := 45) (by omega) (by decide)).mp z)), if_neg (fun q => by rcases q.2 with z | z; exact c1 z; exact c2 z)]
          exact ⟨σ, rfl, h, kx_fr.rf⟩
    · rw [if_neg (show ¬ nI p.1.2 = 0 from nI_ne0 (by omega) (by omega)), if_neg (fun q => c0 q.1)]
      exact ⟨σ, rfl, h, kx_fr.rf⟩
theorem kC_prod {X : kx_X} {a n : Nat} {rs : Nat → Nat → Int32 → kf_St → Option kf_St} {u : kx_S → kx_S × List kx_o} (ha : kx_ld a) (hu : kx_rd X a (f_X6_readUnit rs 43 a (nI n)) u) : kx_rd X a (f_X6_readProduct rs 43 a (nI n)) (kx_pr X u) := by
  intro e s cs σ h
  obtain ⟨τ1, t1, t2, t3⟩ := hu _ _ _ _ h
  obtain ⟨τ2, u1, u2, u3⟩ := kC_lpProduct ha hu 400 0 rfl kf_F (kf_F_gt (by decide)) e (u s) cs τ1 t2
  refine ⟨τ2, ?_, u2, t3.tr u3⟩
  unfold f_X6_readProduct
  rw [t1, Option.bind_some]
  exact u1
theorem kC_sum1 {X : kx_X} {a n : Nat} {rs : Nat → Nat → Int32 → kf_St → Option kf_St} {u : kx_S → kx_S × List kx_o} (ha : kx_ld a) (hu : kx_rd X a (f_X6_readUnit rs 43 a (nI n)) u) : kx_rd X a (f_X6_readSum rs 43 a (nI n)) (kx_sm X u) := by
  intro e s cs σ h
  have hp := kC_prod ha hu
  obtain ⟨τ1, t1, t2, t3⟩ := hp _ _ _ _ h
  obtain ⟨τ2, u1, u2, u3⟩ := kC_lpSum ha hp 400 0 rfl kf_F (kf_F_gt (by decide)) e (kx_pr X u s) cs τ1 t2
  refine ⟨τ2, ?_, u2, t3.tr u3⟩
  unfold f_X6_readSum
  rw [t1, Option.bind_some]
  exact u1
theorem kC_sumN {X : kx_X} {a : Nat} (ha : kx_ld a) : ∀ m n, n ≤ 6 → 6 < m + n → kx_rd X a (f_X6_readSumN m 43 a (nI n)) (kx_su X m n)
  | 0, n, h1, h2 => by omega
  | m + 1, n, h1, h2 => kC_sum1 ha (kC_unit ha h1 (fun h => kC_sumN ha m (n + 1) (by omega) (by omega)))
