/-! ===== pure: the class reads a law ===== -/
abbrev kx_sf : Type := kx_S → kx_S × List kx_o
def kx_fi (S : kx_sf) (s : kx_S) (bs : List (List kx_o × List kx_o × List kx_o)) : kx_S × kx_w := ((S s).1, (bs, (S s).2))
/-- the parts of an if: where it stands behind each -/
def kx_i1 (X : kx_X) (S : kx_sf) (s : kx_S) : kx_S × List kx_o := S (kx_tk X 265 s)
def kx_i2 (X : kx_X) (S : kx_sf) (s : kx_S) : kx_S × List kx_o := S (kx_tk X 60 (kx_i1 X S s).1)
def kx_i3 (X : kx_X) (S : kx_sf) (s : kx_S) : kx_S × List kx_o := S (kx_tk X 266 (kx_i2 X S s).1)
def kx_i4 (X : kx_X) (S : kx_sf) (s : kx_S) : kx_S := kx_tk X 267 (kx_i3 X S s).1
def kx_ib (X : kx_X) (S : kx_sf) (s : kx_S) : List kx_o × List kx_o × List kx_o := ((kx_i1 X S s).2, (kx_i2 X S s).2, (kx_i3 X S s).2)
def kx_ll (X : kx_X) (S : kx_sf) : Nat → kx_S → List (List kx_o × List kx_o × List kx_o) → kx_S × kx_w
  | 0, s, bs => kx_fi S s bs
  | g + 1, s, bs => if s.2 = 0 ∧ kx_K X s.1 = 265 then (if g = 0 then ((s.1, 2), (bs, [])) else kx_ll X S g (kx_i4 X S s) (bs ++ [kx_ib X S s])) else kx_fi S s bs
def kx_lr (X : kx_X) (S : kx_sf) (d : Nat) (s : kx_S) : kx_S × kx_w := kx_ll X S 5 (kx_tk X 61 (kx_tk X d s)) []
theorem kx_gd9 (X : kx_X) : kx_gd X 15 (kx_su X 9 0) := kx_gd_su X 9 0 (by decide) (by decide)
theorem kC_sum9 {X : kx_X} {a : Nat} (ha : kx_ld a) : kx_rd X a (f_X6_readSumN 9 43 a 0) (kx_su X 9 0) := kC_sumN ha 9 0 (by decide) (by decide)
theorem kx_gd1 {X : kx_X} {S : kx_sf} (h : kx_gd X 15 S) {s : kx_S} (hs : kx_g X s) : kx_g X (S s).1 ∧ (s.2 ≠ 0 → (S s).1 = s) ∧ ((S s).1.2 = 0 → s.2 = 0 ∧ s.1 < (S s).1.1 ∧ (S s).2.length + s.1 ≤ (S s).1.1 ∧ kx_1 (S s).2) := h s hs
theorem kx_ca_set {c d : Nat → Int32} {A B : List kx_o} {t : Nat} (h : kx_ca c 0 (A ++ ((6, 0) :: B))) (e : ∀ i, i ≠ A.length → d i = c i) (et : d A.length = nI (8 * t + 6)) : kx_ca d 0 (A ++ ((6, t) :: B)) := by
  obtain ⟨h1, h2⟩ := (kx_ca_app c A).mp h
  refine (kx_ca_app d A).mpr ⟨kx_ca_c A (fun i _ hi => e i (by omega)) h1, ?_, kx_ca_c B (fun i hi _ => e i (by omega)) h2.2⟩
  rw [Nat.zero_add]
  exact et
theorem kC_aim {a j n : Nat} {σ : kf_St} (ha : kx_ld a) (hn : n ≤ 401) (h0 : σ.1 a 0 = nI n) (hj : j ≤ 401) : ∃ τ, f_X2_aim a (nI j) (nI n) σ = some τ ∧ kx_fr (fun r b => r = a + 1 ∧ b = j) kx_n0 σ τ ∧ (j < n → τ.1 (a + 1) j = nI (8 * n + 6)) := by
  obtain ⟨a1, a2, ra, la⟩ := ha
  unfold f_X2_aim
  simp only [kz_lt]
  rw [if_neg (nI_pos (by omega)), h0, ra, la, show (6 : Int32) = nI 6 from rfl, kx_enc (by omega) (by decide)]
  by_cases c : j < n
  · rw [if_neg (nI_ge c (by omega)), if_pos (kf_ixN (by omega) (by decide)), nI_clamp (by omega)]
    exact ⟨_, rfl, kx_fr.rf.wi ⟨rfl, rfl⟩, fun _ => kp_wi_same _ _ _ _⟩
  · rw [if_pos (nI_le (by omega) (by omega))]
    exact ⟨σ, rfl, kx_fr.rf, fun q => absurd q c⟩
/-- what is known behind a law -/
def kx_RW (X : kx_X) (a : Nat) (p : kx_S × kx_w) (τ : kf_St) : Prop := kx_RC X p.1 τ ∧ (∃ n, n ≤ 401 ∧ τ.1 a 0 = nI n) ∧ (p.1.2 = 0 → kx_CW a p.2 τ)
theorem kC_131 {X : kx_X} {S : kx_sf} {a : Nat} {s : kx_S} {bs : List (List kx_o × List kx_o × List kx_o)} {σ : kf_St} (ha : kx_ld a) (hC : kx_rd X a (f_X6_readSumN 9 43 a 0) S) (h : kx_RL X a 1 s (kx_cp 0 bs) σ) : ∃ τ, f_X6_readLaw_131 43 a σ = some τ ∧ kx_RW X a (kx_fi S s bs) τ ∧ kx_fr (kx_lP a) kx_n0 σ τ := by
  obtain ⟨τ1, t1, t2, t3⟩ := hC _ _ _ _ h
  obtain ⟨τ2, u1, u2, u3⟩ := kC_put' (k := 7) (v := 0) ha (by decide) (by decide) t2
  refine ⟨τ2, ?_, ⟨u2.1, u2.2.1, fun q => ?_⟩, t3.tr u3⟩
  · unfold f_X6_readLaw_131
    rw [t1, Option.bind_some, show (7 : Int32) = nI 7 from rfl, show (0 : Int32) = nI 0 from rfl, u1, Option.bind_some]
  · obtain ⟨⟨y1, y2⟩, y3⟩ := u2.2.2 q
    have t4 := u2.1.1.1.1
    exact ⟨by show (kx_cp 0 bs ++ (S s).2 ++ [(7, 0)]).length ≤ 401; omega, y1, y2⟩
theorem kC_52 {X : kx_X} {S : kx_sf} {a : Nat} {s : kx_S} {bs : List (List kx_o × List kx_o × List kx_o)} {σ : kf_St} (ha : kx_ld a) (hS : kx_gd X 15 S) (hC : kx_rd X a (f_X6_readSumN 9 43 a 0) S) (rec : Nat → Nat → Int32 → kf_St → Option kf_St) (i : Nat) (h : kx_RL X a 1 s (kx_cp 0 bs) σ) : ∃ τ, f_X6_readLaw_52 rec 43 a (nI i) σ = rec 43 a (nI (i + 1)) τ ∧ kx_RL X a 1 (kx_i4 X S s) (kx_cp 0 (bs ++ [kx_ib X S s])) τ ∧ kx_fr (kx_lP a) kx_n0 σ τ := by
  obtain ⟨τ1, a1, a2, a3⟩ := kC_take' (d := 265) ha h (by decide) (by decide)
  obtain ⟨τ2, b1, b2, b3⟩ := hC _ _ _ _ a2
  have b2 : kx_RL X a 2 (kx_i1 X S s).1 (kx_cp 0 bs ++ (kx_i1 X S s).2) τ2 := b2
  obtain ⟨τ3, c1, c2, c3⟩ := kC_take' (d := 60) ha b2 (by decide) (by decide)
  obtain ⟨τ4, d1, d2, d3⟩ := hC _ _ _ _ c2
  have d2 : kx_RL X a 3 (kx_i2 X S s).1 (kx_cp 0 bs ++ (kx_i1 X S s).2 ++ (kx_i2 X S s).2) τ4 := d2
  obtain ⟨τ5, e1, e2, e3⟩ := kC_take' (d := 266) ha d2 (by decide) (by decide)
  obtain ⟨τ6, f1, f2, f3⟩ := kC_put' (k := 6) (v := 0) ha (by decide) (by decide) e2
  have z5 : (kx_i3 X S s).1.2 = 0 → (kx_tk X 266 (kx_i2 X S s).1).2 = 0 := fun q => by
    rw [show kx_i3 X S s = S (kx_tk X 266 (kx_i2 X S s).1) from rfl] at q
    exact ((kx_gd1 hS f2.1.1).2.2 q).1
  obtain ⟨τ7, g1, g2, g3⟩ := hC _ _ _ _ f2
  have g2 : kx_RL X a 3 (kx_i3 X S s).1 (kx_cp 0 bs ++ (kx_i1 X S s).2 ++ (kx_i2 X S s).2 ++ [(6, 0)] ++ (kx_i3 X S s).2) τ7 := g2
  obtain ⟨τ8, i1, i2, i3⟩ := kC_take' (d := 267) ha g2 (by decide) (by decide)
  have i2 : kx_RL X a 4 (kx_i4 X S s) (kx_cp 0 bs ++ (kx_i1 X S s).2 ++ (kx_i2 X S s).2 ++ [(6, 0)] ++ (kx_i3 X S s).2) τ8 := i2
  have z8 : (kx_i4 X S s).2 = 0 → (kx_i3 X S s).1.2 = 0 := fun q => by
    rw [show kx_i4 X S s = kx_tk X 267 (kx_i3 X S s).1 from rfl] at q
    exact (kx_tk_0 q).1
  obtain ⟨τ9, j1, j2, j3⟩ := kC_put' (k := 7) (v := 0) ha (by decide) (by decide) i2
  have IB : kx_ib X S s = ((kx_i1 X S s).2, (kx_i2 X S s).2, (kx_i3 X S s).2) := rfl
  rw [IB]
  generalize hL1 : (kx_i1 X S s).2 = L1 at *
  generalize hL2 : (kx_i2 X S s).2 = L2 at *
  generalize hL3 : (kx_i3 X S s).2 = L3 at *
  generalize hs4 : kx_i4 X S s = s4 at *
  generalize hs3 : (kx_i3 X S s).1 = s3 at *
  generalize hs5 : kx_tk X 266 (kx_i2 X S s).1 = s5 at *
  obtain ⟨n5, n51, n52⟩ := e2.2.1
  obtain ⟨n9, n91, n92⟩ := j2.2.1
  obtain ⟨τ, k1, k2, k3⟩ := kC_aim (j := n5) ha n91 n92 n51
  have fr : kx_fr (kx_lP a) kx_n0 σ τ9 := ((((((((a3.lp.tr b3).tr c3.lp).tr d3).tr e3.lp).tr f3).tr g3).tr i3.lp).tr j3)
  have k2' : kx_fr (fun r _ => r = a ∨ r = a + 1) kx_n0 τ9 τ := k2.mono (fun _ _ q => Or.inr q.1) (fun _ _ q => q)
  have r0 : τ.1 a = τ9.1 a := k2.row (fun b => by omega)
  refine ⟨τ, ?_, ⟨j2.1.la ha k2', ⟨n9, n91, by rw [r0]; exact n92⟩, fun q => ?_⟩, fr.tr k2'.la⟩
  · unfold f_X6_readLaw_52
    simp only [kz_lt]
    rw [show (265 : Int32) = nI 265 from rfl, a1, Option.bind_some, b1, Option.bind_some, show (60 : Int32) = nI 60 from rfl, c1, Option.bind_some, d1, Option.bind_some, show (266 : Int32) = nI 266 from rfl, e1, Option.bind_some]
    rw [show f_X2_put a 6 0 τ5 = some τ6 from f1, Option.bind_some, g1, Option.bind_some, show (267 : Int32) = nI 267 from rfl, i1, Option.bind_some, show f_X2_put a 7 0 τ8 = some τ9 from j1, Option.bind_some, n52, n92, k1, Option.bind_some, nI_1]
  · obtain ⟨⟨y1, y2⟩, y3⟩ := j2.2.2 q
    obtain ⟨⟨x1, -⟩, x3⟩ := e2.2.2 (z5 (z8 q))
    have t5 := e2.1.1.1.1
    have t4 := j2.1.1.1.1
    have en5 : n5 = (kx_cp 0 bs ++ L1 ++ L2).length := (nI_eq (by omega) (by omega)).mp (n52.symm.trans x1)
    have en9 := (nI_eq (a := n9) (by omega) (by omega)).mp (n92.symm.trans y1)
    have el : (kx_cp 0 bs ++ L1 ++ L2 ++ [((6 : Nat), (0 : Nat))] ++ L3 ++ [(7, 0)]).length = (kx_cp 0 bs).length + L1.length + L2.length + L3.length + 2 := by
      simp only [List.length_append, List.length_cons, List.length_nil]
      omega
    have el5 : (kx_cp 0 bs ++ L1 ++ L2).length = (kx_cp 0 bs).length + L1.length + L2.length := by
      simp only [List.length_append]
    rw [el] at en9 y3
    rw [el5] at en5
    have L : (kx_cp 0 (bs ++ [(L1, L2, L3)])) = kx_cp 0 bs ++ L1 ++ L2 ++ ((6, n9) :: (L3 ++ [(7, 0)])) := by
      rw [kx_cp_s, Nat.zero_add]
      unfold kx_bc
      dsimp only
      rw [← en9]
      simp only [List.append_assoc, List.cons_append, List.nil_append]
    have len : (kx_cp 0 (bs ++ [(L1, L2, L3)])).length = n9 := by
      rw [L, en9]
      simp only [List.length_append, List.length_cons, List.length_nil]
      omega
    refine ⟨⟨by rw [len, r0]; exact n92, ?_⟩, by rw [len, en9]; omega⟩
    rw [L]
    have eqL : kx_cp 0 bs ++ L1 ++ L2 ++ [((6 : Nat), (0 : Nat))] ++ L3 ++ [(7, 0)] = kx_cp 0 bs ++ L1 ++ L2 ++ ((6, 0) :: (L3 ++ [(7, 0)])) := by simp only [List.append_assoc, List.cons_append, List.nil_append]
    rw [eqL] at y2
    refine kx_ca_set y2 (fun j hj => k2.1 _ _ (fun z => hj (by rw [el5, ← en5]; exact z.2))) ?_
    rw [el5, ← en5]
    exact k3 (by omega)
theorem kC_ll {X : kx_X} {S : kx_sf} {a : Nat} (ha : kx_ld a) (hS : kx_gd X 15 S) (hC : kx_rd X a (f_X6_readSumN 9 43 a 0) S) : ∀ g i, i + g = 5 → ∀ f, g < f → ∀ s bs σ, kx_RL X a 1 s (kx_cp 0 bs) σ → ∃ τ, f_X6_readLaw_20 f 43 a (nI i) σ = some τ ∧ kx_RW X a (kx_ll X S g s bs) τ ∧ kx_fr (kx_lP a) kx_n0 σ τ := by
  intro g
  induction g with
  | zero =>
    intro i hi f hf s bs σ h
    obtain ⟨f, rfl⟩ := kp_fuel hf
    show ∃ τ, f_X6_readLaw_20_s _ 43 a (nI i) σ = some τ ∧ _
    unfold f_X6_readLaw_20_s
    rw [if_pos (show (4 : Int32) < nI i from nI_lt (a := 4) (by omega) (by omega))]
    exact kC_131 ha hC h
  | succ g ih =>
    intro i hi f hf s bs σ h
    obtain ⟨f, rfl⟩ := kp_fuel (show 0 < f by omega)
    have kl := kx_K_lt X s.1
    have f2 := h.1.1.2
    show ∃ τ, f_X6_readLaw_20_s (f_X6_readLaw_20 f) 43 a (nI i) σ = some τ ∧ kx_RW X a (if s.2 = 0 ∧ kx_K X s.1 = 265 then (if g = 0 then ((s.1, 2), (bs, [])) else kx_ll X S g (kx_i4 X S s) (bs ++ [kx_ib X S s])) else kx_fi S s bs) τ ∧ _
    unfold f_X6_readLaw_20_s
    rw [if_neg (show ¬ (4 : Int32) < nI i from nI_nlt (a := 4) (by omega) (by decide)), h.1.2.2.1, h.1.2.2.2.2]
    by_cases c0 : s.2 = 0
    · rw [if_pos (show nI s.2 = 0 by rw [c0]; rfl)]
      by_cases c1 : kx_K X s.1 = 265
      · rw [if_pos (show nI (kx_K X s.1) = 265 by rw [c1]; rfl), if_pos (show s.2 = 0 ∧ kx_K X s.1 = 265 from ⟨c0, c1⟩)]
        by_cases c4 : g = 0
        · rw [if_pos (show nI i = 4 by rw [show i = 4 by omega]; rfl), if_pos c4]
          obtain ⟨τ1, t1, t2, t3⟩ := kC_fail (k := 2) h.1 (by decide)
          rw [if_pos c0] at t2
          have h1 : kx_RL X a 1 (s.1, 2) (kx_cp 0 bs) τ1 := h.tk ha t2 t3 (fun q => absurd q (by show ¬ 2 = 0; decide))
          obtain ⟨τ2, u1, u2, u3⟩ := kC_52 ha hS hC (f_X6_readLaw_20 f) i h1
          obtain ⟨τ3, v1, v2, v3⟩ := ih (i + 1) (by omega) f (by omega) _ _ _ u2
          have bad : ∀ d, kx_tk X d (s.1, 2) = (s.1, 2) := fun d => kx_tk_f (by show ¬ 2 = 0; decide)
          have badS : (S (s.1, 2)).1 = (s.1, 2) := (kx_gd1 hS h1.1.1).2.1 (by show ¬ 2 = 0; decide)
          have e4 : kx_i4 X S (s.1, 2) = (s.1, 2) := by
            unfold kx_i4 kx_i3 kx_i2 kx_i1
            rw [bad, badS, bad, badS, bad, badS, bad]
          refine ⟨τ3, ?_, ?_, (t3.lp.tr u3).tr v3⟩
          · rw [show (2 : Int32) = nI 2 from rfl, t1, Option.bind_some, u1, v1]
          · rw [c4, e4] at v2
            refine ⟨?_, v2.2.1, fun q => absurd q (by show ¬ 2 = 0; decide)⟩
            have v21 : kx_RC X (S (s.1, 2)).1 τ3 := v2.1
            rw [badS] at v21
            exact v21
        · rw [if_neg (show ¬ nI i = 4 from fun z => absurd ((nI_eq (b := 4) (by omega) (by decide)).mp z) (by omega)), if_neg c4]
          obtain ⟨τ2, u1, u2, u3⟩ := kC_52 ha hS hC (f_X6_readLaw_20 f) i h
          obtain ⟨τ3, v1, v2, v3⟩ := ih (i + 1) (by omega) f (by omega) _ _ _ u2
          exact ⟨τ3, by rw [u1, v1], v2, u3.tr v3⟩
      · rw [if_neg (show ¬ nI (kx_K X s.1) = 265 from fun z => c1 ((nI_eq (b := 265) (by omega) (by decide)).mp z)), if_neg (fun q => c1 q.2)]
        exact kC_131 ha hC h
    · rw [if_neg (show ¬ nI s.2 = 0 from nI_ne0 (by omega) (by omega)), if_neg (fun q => c0 q.1)]
      exact kC_131 ha hC h
theorem kC_lawr {X : kx_X} {S : kx_sf} {a d : Nat} {s : kx_S} {σ : kf_St} (ha : kx_ld a) (hS : kx_gd X 15 S) (hC : kx_rd X a (f_X6_readSumN 9 43 a 0) S) (h : kx_RC X s σ) (hn : ∃ n, n ≤ 401 ∧ σ.1 a 0 = nI n) (hd : 259 ≤ d ∧ d ≤ 261) (hK : kx_K X s.1 = d) : ∃ τ, f_X6_readLaw 43 a σ = some τ ∧ kx_RW X a (kx_lr X S d s) τ ∧ kx_fr (kx_lP a) kx_n0 σ τ := by
  obtain ⟨τ1, t1, t2, t3⟩ := kC_take (d := d) h (by omega) (by omega)
  obtain ⟨τ2, u1, u2, u3⟩ := kC_take (d := 61) t2 (by decide) (by decide)
  have cc : kx_fr (fun r _ => r = a ∨ r = a + 1) kx_n0 τ2 (kf_wi τ2 a 0 0) := kx_fr.rf.wi (Or.inl rfl)
  have rl : kx_RL X a 1 (kx_tk X 61 (kx_tk X d s)) (kx_cp 0 []) (kf_wi τ2 a 0 0) := ⟨u2.la ha cc, ⟨0, by decide, kp_wi_same _ _ _ _⟩, fun q => ⟨⟨kp_wi_same _ _ _ _, True.intro⟩, by
    obtain ⟨z1, z2, z3, z4⟩ := kx_tk_0 q
    rw [z4]
    show 0 + 1 ≤ _ + 1
    omega⟩⟩
  obtain ⟨τ3, v1, v2, v3⟩ := kC_ll ha hS hC 5 0 rfl kf_F (kf_F_gt (by decide)) _ _ _ rl
  refine ⟨τ3, ?_, v2, ((t3.lp.tr u3.lp).tr cc.la).tr v3⟩
  unfold f_X6_readLaw f_X2_clear
  simp only [kz_lt]
  rw [h.2.2.2.2, hK, t1, Option.bind_some, show (61 : Int32) = nI 61 from rfl, u1, Option.bind_some, Option.bind_some]
  exact v1
/-- what is read without a fault is in order -/
theorem kx_ll_ok {X : kx_X} {S : kx_sf} (hS : kx_gd X 15 S) : ∀ g s bs, kx_g X s → (s.2 = 0 → ∀ b, b ∈ bs → kx_1 b.1 ∧ kx_1 b.2.1 ∧ kx_1 b.2.2) → kx_g X (kx_ll X S g s bs).1 ∧ ((kx_ll X S g s bs).1.2 = 0 → s.2 = 0 ∧ s.1 < (kx_ll X S g s bs).1.1 ∧ kx_wok (kx_ll X S g s bs).2) := by
  have fin : ∀ s bs, kx_g X s → (s.2 = 0 → ∀ b, b ∈ bs → kx_1 b.1 ∧ kx_1 b.2.1 ∧ kx_1 b.2.2) → kx_g X (kx_fi S s bs).1 ∧ ((kx_fi S s bs).1.2 = 0 → s.2 = 0 ∧ s.1 < (kx_fi S s bs).1.1 ∧ kx_wok (kx_fi S s bs).2) := by
    intro s bs hs hb
    obtain ⟨r1, r2, r3⟩ := kx_gd1 hS hs
    exact ⟨r1, fun q => ⟨(r3 q).1, (r3 q).2.1, hb (r3 q).1, (r3 q).2.2.2⟩⟩
  intro g
  induction g with
  | zero => intro s bs hs hb; exact fin s bs hs hb
  | succ g ih =>
    intro s bs hs hb
    rw [show kx_ll X S (g + 1) s bs = if s.2 = 0 ∧ kx_K X s.1 = 265 then (if g = 0 then ((s.1, 2), (bs, [])) else kx_ll X S g (kx_i4 X S s) (bs ++ [kx_ib X S s])) else kx_fi S s bs from rfl]
    by_cases c : s.2 = 0 ∧ kx_K X s.1 = 265
    · rw [if_pos c]
      by_cases c4 : g = 0
      · rw [if_pos c4]
        exact ⟨⟨hs.1, Nat.le_refl _⟩, fun q => absurd q (by show ¬ 2 = 0; decide)⟩
      · rw [if_neg c4]
        have g1 := kx_tk_g (d := 265) (by decide) hs
        have A := kx_gd1 hS g1
        rw [← show kx_i1 X S s = S (kx_tk X 265 s) from rfl] at A
        obtain ⟨a1, a2, a3⟩ := A
        have g2 := kx_tk_g (d := 60) (by decide) a1
        have B := kx_gd1 hS g2
        rw [← show kx_i2 X S s = S (kx_tk X 60 (kx_i1 X S s).1) from rfl] at B
        obtain ⟨b1, b2, b3⟩ := B
        have g3 := kx_tk_g (d := 266) (by decide) b1
        have C := kx_gd1 hS g3
        rw [← show kx_i3 X S s = S (kx_tk X 266 (kx_i2 X S s).1) from rfl] at C
        obtain ⟨c1, c2, c3⟩ := C
        have E4 : kx_i4 X S s = kx_tk X 267 (kx_i3 X S s).1 := rfl
        have g4 : kx_g X (kx_i4 X S s) := by rw [E4]; exact kx_tk_g (d := 267) (by decide) c1
        have all : (kx_i4 X S s).2 = 0 → s.1 < (kx_i4 X S s).1 ∧ kx_1 (kx_i1 X S s).2 ∧ kx_1 (kx_i2 X S s).2 ∧ kx_1 (kx_i3 X S s).2 := by
          intro q
          rw [E4] at q ⊢
          obtain ⟨z1, z2, z3, z4⟩ := kx_tk_0 q
          obtain ⟨y1, y2, y3, y4⟩ := c3 z1
          obtain ⟨x1, x2, x3, x4⟩ := kx_tk_0 y1
          obtain ⟨w1, w2, w3, w4⟩ := b3 x1
          obtain ⟨v1, v2, v3, v4⟩ := kx_tk_0 w1
          obtain ⟨u1, u2, u3, u4⟩ := a3 v1
          obtain ⟨t1, t2, t3, t4⟩ := kx_tk_0 u1
          refine ⟨?_, u4, w4, y4⟩
          have e1 : (kx_tk X 265 s).1 = s.1 + 1 := by rw [t4]
          have e2 : (kx_tk X 60 (kx_i1 X S s).1).1 = (kx_i1 X S s).1.1 + 1 := by rw [v4]
          have e3 : (kx_tk X 266 (kx_i2 X S s).1).1 = (kx_i2 X S s).1.1 + 1 := by rw [x4]
          have e4 : (kx_tk X 267 (kx_i3 X S s).1).1 = (kx_i3 X S s).1.1 + 1 := by rw [z4]
          omega
        obtain ⟨r1, r2⟩ := ih (kx_i4 X S s) (bs ++ [kx_ib X S s]) g4 (fun q4 b hb2 => by
          obtain ⟨l1, l2, l3, l4⟩ := all q4
          rcases List.mem_append.mp hb2 with z | z
          · exact hb c.1 b z
          · rw [List.mem_singleton.mp z, show kx_ib X S s = ((kx_i1 X S s).2, (kx_i2 X S s).2, (kx_i3 X S s).2) from rfl]; exact ⟨l2, l3, l4⟩)
        exact ⟨r1, fun q => ⟨c.1, by have := (r2 q).2.1; have := (all (r2 q).1).1; omega, (r2 q).2.2⟩⟩
    · rw [if_neg c]; exact fin s bs hs hb
