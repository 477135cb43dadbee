/-! ===== pure: the reference reads sums ===== -/
def kx_wv (W : List Nat) : Prop := ∀ w, w ∈ W → w = 6 ∨ w = 8 ∨ w = 9 ∨ w = 10 ∨ w = 15
def kx_ES (X : kx_X) (sd n : Nat) (s : kx_S) (W : List Nat) (cs : List kx_o) (σ : kf_St) : Prop := kx_RM X s σ ∧ s.2 = 0 ∧ σ.1 77 12 = nI n ∧ kx_WS sd W cs σ ∧ cs.length + W.length ≤ s.1 ∧ W.length ≤ 60 ∧ kx_wv W ∧ n ≤ 6
def kx_eP (sd c0 a b : Nat) : Prop := (a = 77 ∧ (b = 11 ∨ b = 12 ∨ b = 13 ∨ b = 14 ∨ b = 43 ∨ b = 47)) ∨ a = 108 ∨ ((a = 106 ∨ a = 107) ∧ c0 ≤ b ∧ b < 420 * sd + 420)
theorem kx_fr.o2 {sd c0 : Nat} {σ τ : kf_St} (c : kx_fr (kx_oP sd c0) kx_n0 σ τ) : kx_fr (kx_eP sd c0) kx_n0 σ τ := c.mono (fun a b q => by unfold kx_oP at q; unfold kx_eP; omega) (fun _ _ q => q)
theorem kx_fr.m2 {sd c0 : Nat} {σ τ : kf_St} (c : kx_fr kx_mT kx_n0 σ τ) : kx_fr (kx_eP sd c0) kx_n0 σ τ := c.mono (fun a b q => by unfold kx_mT at q; unfold kx_eP; omega) (fun _ _ q => q)
theorem kx_fr.f2 {sd c0 : Nat} {σ τ : kf_St} (c : kx_fr (fun a b => a = 77 ∧ (b = 13 ∨ b = 14)) kx_n0 σ τ) : kx_fr (kx_eP sd c0) kx_n0 σ τ := c.mono (fun a b q => by unfold kx_eP; omega) (fun _ _ q => q)
theorem kx_fr.e2 {sd c0 : Nat} {σ τ : kf_St} (c : kx_fr (fun a b => (a = 77 ∧ b = 43) ∨ ((a = 106 ∨ a = 107) ∧ c0 ≤ b ∧ b < 420 * sd + 420)) kx_n0 σ τ) : kx_fr (kx_eP sd c0) kx_n0 σ τ := c.mono (fun a b q => by unfold kx_eP; omega) (fun _ _ q => q)
theorem kx_RM.o {X : kx_X} {s : kx_S} {sd c0 : Nat} {σ τ : kf_St} (h : kx_RM X s σ) (c : kx_fr (kx_oP sd c0) kx_n0 σ τ) : kx_RM X s τ := h.fr c (fun a b _ _ q => by unfold kx_oP at q; omega) (fun b q => q) ⟨by unfold kx_oP; omega, by unfold kx_oP; omega, by unfold kx_oP; omega⟩
theorem kx_WS.m {sd : Nat} {W : List Nat} {cs : List kx_o} {σ τ : kf_St} {P : Nat → Nat → Prop} (h : kx_WS sd W cs σ) (c : kx_fr P kx_n0 σ τ) (hP : ∀ a b, P a b → a = 77 ∧ b ≠ 43 ∧ b ≠ 47) : kx_WS sd W cs τ := by
  refine ⟨(c.1 77 47 (fun q => (hP _ _ q).2.2 rfl)).trans h.1, ?_, (c.1 77 43 (fun q => (hP _ _ q).2.1 rfl)).trans h.2.2.1, ?_⟩
  · rw [c.row (fun b q => absurd (hP _ _ q).1 (by decide))]; exact h.2.1
  · rw [c.row (a := 106) (fun b q => absurd (hP _ _ q).1 (by decide)), c.row (a := 107) (fun b q => absurd (hP _ _ q).1 (by decide))]; exact h.2.2.2
theorem kx_spl : ∀ (W : List Nat), kx_wv W → ∃ P V, W = P ++ V ∧ (∀ w, w ∈ P → kx_dr false w) ∧ kx_st false V
  | [], _ => ⟨[], [], rfl, fun _ h => absurd h List.not_mem_nil, True.intro⟩
  | x :: r, h => by
    by_cases c : x = 6
    · exact ⟨[], x :: r, rfl, fun _ h => absurd h List.not_mem_nil, Or.inl c⟩
    · obtain ⟨P, V, e, p1, p2⟩ := kx_spl r (fun w hw => h w (List.mem_cons_of_mem _ hw))
      refine ⟨x :: P, V, by rw [e]; rfl, fun w hw => ?_, p2⟩
      rcases List.mem_cons.mp hw with q | q
      · rw [q]
        rcases h x (List.mem_cons_self ..) with z | z | z | z | z
        · exact absurd z c
        · exact Or.inr ⟨rfl, Or.inl z⟩
        · exact Or.inr ⟨rfl, Or.inr z⟩
        · exact Or.inl (Or.inl z)
        · exact Or.inl (Or.inr z)
      · exact p1 w q
/-- the reference has a fault: what is still done -/
theorem kM_outA {sd c0 : Nat} {W : List Nat} {cs : List kx_o} {σ : kf_St} (hs : sd < 2) (hv : kx_wv W) (h : kx_WS sd W cs σ) (hl : W.length ≤ 60) (hc : cs.length + W.length ≤ 420) (h0 : c0 ≤ 420 * sd + cs.length) : ∃ τ, f_X12_comesOut 77 0 σ = some τ ∧ kx_fr (kx_oP sd c0) kx_n0 σ τ := by
  obtain ⟨P, V, e, p1, p2⟩ := kx_spl W hv
  subst e
  obtain ⟨τ, t1, t2, t3⟩ := kM_out (g := false) hs p1 p2 h (by omega) hc h0
  exact ⟨τ, t1, t3⟩
theorem kM_145F {X : kx_X} {s : kx_S} {σ : kf_St} (rec : Nat → Int32 → Int32 → kf_St → Option kf_St) (h : kx_RM X s σ) (hK : s.2 = 0 → ¬ kx_K X s.1 = 43 ∧ ¬ kx_K X s.1 = 45 ∧ ¬ kx_K X s.1 = 42 ∧ ¬ kx_K X s.1 = 47) : f_X12_expression_145 rec 77 0 σ = f_X12_expression_186 rec 77 0 0 σ := by
  unfold f_X12_expression_145
  rw [show f_X12_is 77 8 σ = some (0, σ) from kM_isF (k := 43) h rfl (by decide) (fun q => (hK q).1), Option.bind_some]
  dsimp only
  rw [if_pos rfl, show f_X12_is 77 9 σ = some (0, σ) from kM_isF (k := 45) h rfl (by decide) (fun q => (hK q).2.1), Option.bind_some]
  dsimp only
  rw [if_pos rfl, show f_X12_is 77 10 σ = some (0, σ) from kM_isF (k := 42) h rfl (by decide) (fun q => (hK q).2.2.1), Option.bind_some]
  dsimp only
  rw [if_pos rfl, show f_X12_is 77 15 σ = some (0, σ) from kM_isF (k := 47) h rfl (by decide) (fun q => (hK q).2.2.2), Option.bind_some]
  dsimp only
  rw [if_pos rfl]
/-- behind a fault: the closing row -/
theorem kM_96F {X : kx_X} {sd n c0 G : Nat} {s : kx_S} {W : List Nat} {cs : List kx_o} {σ : kf_St} (rec : Nat → Int32 → Int32 → kf_St → Option kf_St) (hs : sd < 2) (h : kx_RM X s σ) (hf : s.2 ≠ 0) (ho : σ.1 77 12 = nI n) (hn : n ≤ 7) (hv : kx_wv W) (hw : kx_WS sd W cs σ) (hl : W.length ≤ 60) (hc : cs.length + W.length ≤ 420) (h0 : c0 ≤ 420 * sd + cs.length) (hG : 0 < G) : ∃ τ, f_X12_expression_96 rec G 77 0 σ = some τ ∧ kx_RM X s τ ∧ kx_fr (kx_eP sd c0) kx_n0 σ τ := by
  obtain ⟨G, rfl⟩ := kp_fuel hG
  obtain ⟨τ1, t1, t2, t3⟩ := kM_fail (k := 1) h (by decide)
  rw [if_neg hf] at t2
  have ws1 := hw.m t3 (fun a b q => by omega)
  obtain ⟨τ2, u1, u3⟩ := kM_outA hs hv ws1 hl hc h0
  obtain ⟨τ3, v1, v3⟩ := kM_outA hs hv hw hl hc h0
  have main : ∃ τ, f_X12_expression_186 rec 77 0 0 σ = some τ ∧ kx_RM X s τ ∧ kx_fr (kx_eP sd c0) kx_n0 σ τ := by
    unfold f_X12_expression_186 f_X12_expression_204
    rw [if_pos rfl, ho]
    by_cases c : n = 0
    · rw [if_pos (show nI n ≤ 0 by rw [c]; exact Int32.le_refl _), v1, Option.bind_some]
      exact ⟨τ3, rfl, h.o v3, v3.o2⟩
    · rw [if_neg (nI_nle (by omega) (by omega)), show f_X12_fail 77 1 σ = some τ1 from t1, Option.bind_some, u1, Option.bind_some]
      exact ⟨τ2, rfl, t2.o u3, t3.f2.tr u3.o2⟩
  obtain ⟨τ, m1, m2, m3⟩ := main
  refine ⟨τ, ?_, m2, m3⟩
  show f_X12_expression_96_s rec _ 77 0 σ = _
  unfold f_X12_expression_96_s
  rw [show f_X12_is 77 7 σ = some (0, σ) from kM_isF (k := 41) h rfl (by decide) (fun q => absurd q hf), Option.bind_some]
  dsimp only
  rw [if_pos rfl, kM_145F rec h (fun q => absurd q hf)]
  exact m1
theorem kM_23F {X : kx_X} {F : Nat} {s : kx_S} {σ : kf_St} (rec : Nat → Int32 → Int32 → kf_St → Option kf_St) (h : kx_RM X s σ) (hf : s.2 ≠ 0) (hF : 0 < F) : ∃ τ, f_X12_expression_23 rec F 77 0 σ = some τ ∧ kx_RM X s τ ∧ kx_fr (fun a b => a = 77 ∧ (b = 13 ∨ b = 14)) kx_n0 σ τ := by
  obtain ⟨F, rfl⟩ := kp_fuel hF
  have f2 := h.1.2
  obtain ⟨τ1, t1, t2, t3⟩ := kM_fail (k := 1) h (by decide)
  rw [if_neg hf] at t2
  refine ⟨τ1, ?_, t2, t3⟩
  show f_X12_expression_23_s rec _ 77 0 σ = _
  unfold f_X12_expression_23_s f_X12_unit f_X12_unit_88
  rw [show f_X12_is 77 6 σ = some (0, σ) from kM_isF (k := 40) h rfl (by decide) (fun q => absurd q hf), Option.bind_some]
  dsimp only
  rw [if_pos rfl, show f_X12_is 77 2 σ = some (0, σ) from kM_isF (k := 3) h rfl (by decide) (fun q => absurd q hf), Option.bind_some]
  dsimp only
  rw [if_pos rfl, h.2.2.1, if_neg (nI_ne0 (by omega) (by omega)), show f_X12_fail 77 1 σ = some τ1 from t1, Option.bind_some, Option.bind_some, t2.2.2.1, if_neg (nI_nle (by omega) (by omega))]
/-- what stands behind a piece: more to come, or a fault -/
def kx_OP (X : kx_X) (sd n c0 : Nat) (run : Option kf_St) (σ : kf_St) (r : kx_S × List kx_o) (W : List Nat) (C : List kx_o) (pp : List Nat → Prop) (nk : Nat → Prop) : Prop := (r.1.2 = 0 → ∃ N G τ P cs, run = f_X12_expression_96 (f_X12_expression_12 N) G 77 0 τ ∧ kx_ES X sd n r.1 (P ++ W) cs τ ∧ cs ++ kx_fl P = C ++ r.2 ∧ C.length ≤ cs.length ∧ pp P ∧ ¬ nk (kx_K X r.1.1) ∧ 1000 ≤ N + r.1.1 ∧ 1000 ≤ G + r.1.1 ∧ kx_fr (kx_eP sd c0) kx_n0 σ τ) ∧ (r.1.2 ≠ 0 → ∃ τ, run = some τ ∧ kx_RM X r.1 τ ∧ kx_fr (kx_eP sd c0) kx_n0 σ τ)
def kx_sg4 (k : Nat) (g : Bool) : Prop := (g = true ∧ (k = 42 ∨ k = 47)) ∨ (g = false ∧ (k = 43 ∨ k = 45))
theorem kM_oph {X : kx_X} {s : kx_S} {σ : kf_St} {k : Nat} {g : Bool} (rec : Nat → Int32 → Int32 → kf_St → Option kf_St) (G : Nat) (h : kx_RM X s σ) (h0 : s.2 = 0) (hK : kx_K X s.1 = k) (hk : kx_sg4 k g) : f_X12_expression_96 rec (G + 1) 77 0 σ = f_X12_expression_234 rec 77 0 1 77 (kx_b1 g) σ := by
  show f_X12_expression_96_s rec _ 77 0 σ = _
  unfold f_X12_expression_96_s
  rw [show f_X12_is 77 7 σ = some (0, σ) from kM_isF (k := 41) h rfl (by decide) (fun _ => by rw [hK]; unfold kx_sg4 at hk; omega), Option.bind_some]
  dsimp only
  rw [if_pos rfl]
  have r186 : f_X12_expression_186 rec 77 0 1 σ = f_X12_expression_234 rec 77 0 1 77 (kx_b1 g) σ := by
    unfold f_X12_expression_186
    rw [if_neg (by decide)]
    rcases hk with ⟨rfl, hk⟩ | ⟨rfl, hk⟩
    · rcases hk with rfl | rfl
      · rw [show f_X12_is 77 10 σ = some (1, σ) from kM_isT (k := 42) h h0 hK, Option.bind_some]
        dsimp only
        rw [if_neg (by decide)]
        rfl
      · rw [show f_X12_is 77 10 σ = some (0, σ) from kM_isF (k := 42) h rfl (by decide) (fun _ => by rw [hK]; decide), Option.bind_some]
        dsimp only
        rw [if_pos rfl, show f_X12_is 77 15 σ = some (1, σ) from kM_isT (k := 47) h h0 hK, Option.bind_some]
        dsimp only
        rw [if_neg (by decide)]
        rfl
    · rw [show f_X12_is 77 10 σ = some (0, σ) from kM_isF (k := 42) h rfl (by decide) (fun _ => by rw [hK]; omega), Option.bind_some]
      dsimp only
      rw [if_pos rfl, show f_X12_is 77 15 σ = some (0, σ) from kM_isF (k := 47) h rfl (by decide) (fun _ => by rw [hK]; omega), Option.bind_some]
      dsimp only
      rw [if_pos rfl]
      rfl
  unfold f_X12_expression_145
  by_cases c1 : k = 43
  · rw [show f_X12_is 77 8 σ = some (1, σ) from kM_isT (k := 43) h h0 (hK.trans c1), Option.bind_some]
    dsimp only
    rw [if_neg (by decide)]
    exact r186
  rw [show f_X12_is 77 8 σ = some (0, σ) from kM_isF (k := 43) h rfl (by decide) (fun _ => by rw [hK]; exact c1), Option.bind_some]
  dsimp only
  rw [if_pos rfl]
  by_cases c2 : k = 45
  · rw [show f_X12_is 77 9 σ = some (1, σ) from kM_isT (k := 45) h h0 (hK.trans c2), Option.bind_some]
    dsimp only
    rw [if_neg (by decide)]
    exact r186
  rw [show f_X12_is 77 9 σ = some (0, σ) from kM_isF (k := 45) h rfl (by decide) (fun _ => by rw [hK]; exact c2), Option.bind_some]
  dsimp only
  rw [if_pos rfl]
  by_cases c3 : k = 42
  · rw [show f_X12_is 77 10 σ = some (1, σ) from kM_isT (k := 42) h h0 (hK.trans c3), Option.bind_some]
    dsimp only
    rw [if_neg (by decide)]
    exact r186
  rw [show f_X12_is 77 10 σ = some (0, σ) from kM_isF (k := 42) h rfl (by decide) (fun _ => by rw [hK]; exact c3), Option.bind_some]
  dsimp only
  rw [if_pos rfl, show f_X12_is 77 15 σ = some (1, σ) from kM_isT (k := 47) h h0 (by rw [hK]; unfold kx_sg4 at hk; omega), Option.bind_some]
  dsimp only
  rw [if_neg (by decide)]
  exact r186
theorem kx_wv_app {P W : List Nat} (h : kx_wv (P ++ W)) : kx_wv W := fun w hw => h w (List.mem_append_right _ hw)
theorem kM_op {X : kx_X} {sd n c0 N G k : Nat} {g : Bool} {s : kx_S} {P V : List Nat} {cs : List kx_o} {σ : kf_St} (hs : sd < 2) (h : kx_ES X sd n s (P ++ V) cs σ) (hK : kx_K X s.1 = k) (hk : kx_sg4 k g) (hP : ∀ w, w ∈ P → kx_dr g w) (hV : kx_st g V) (hl : V.length ≤ 50) (h0 : c0 ≤ 420 * sd + cs.length) : ((kx_tk X k s).2 = 0 → ∃ τ, f_X12_expression_96 (f_X12_expression_12 (N + 1)) (G + 1) 77 0 σ = f_X12_expression_23 (f_X12_expression_12 N) kf_F 77 0 τ ∧ kx_ES X sd n (kx_tk X k s) (kx_km k :: V) (cs ++ kx_fl P) τ ∧ kx_fr (kx_eP sd c0) kx_n0 σ τ) ∧ ((kx_tk X k s).2 ≠ 0 → ∃ τ, f_X12_expression_96 (f_X12_expression_12 (N + 1)) (G + 1) 77 0 σ = some τ ∧ kx_RM X (kx_tk X k s) τ ∧ kx_fr (kx_eP sd c0) kx_n0 σ τ) := by
  obtain ⟨rm, e0, eo, ws, el, ew, ev, en⟩ := h
  have t4 := rm.1.1.1
  obtain ⟨τ1, t1, t2, t3⟩ := kM_out (c0 := c0) hs hP hV ws (by omega) (by omega) h0
  have rm1 := rm.o t3
  have e11 : τ1.1 77 11 = nI s.1 := rm1.2.2.2.1 e0
  have e80 : τ1.1 80 s.1 = nI (kx_km k) := by rw [(rm1.2.1 s.1 rm.1.1).1, hK]
  have cw : kx_fr (fun a b => a = 108 ∨ (a = 77 ∧ b = 47)) kx_n0 τ1 (kf_wi (kf_wi τ1 108 V.length (nI (kx_km k))) 77 47 (nI (V.length + 1))) := (kx_fr.rf.wi (Or.inl rfl)).wi (Or.inr ⟨rfl, rfl⟩)
  generalize hρ : kf_wi (kf_wi τ1 108 V.length (nI (kx_km k))) 77 47 (nI (V.length + 1)) = ρ at cw
  have rm2 : kx_RM X s ρ := rm1.fr cw (fun a b _ _ q => by omega) (fun b q => q) ⟨by omega, by omega, by omega⟩
  have ws2 : kx_WS sd (kx_km k :: V) (cs ++ kx_fl P) ρ := by
    rw [← hρ]
    refine ⟨kp_wi_same _ _ _ _, ⟨?_, ?_⟩, (kp_wi_ne (by omega)).trans ((kp_wi_row (by decide) _).trans t2.2.2.1), kx_ma_c _ (fun i _ _ => ⟨(kp_wi_row (by decide) i).trans (kp_wi_row (by decide) i), (kp_wi_row (by decide) i).trans (kp_wi_row (by decide) i)⟩) t2.2.2.2⟩
    · rw [kp_wi_row (by decide), kp_wi_same]
    · exact kx_wk_c V (fun i hi => by rw [kp_wi_row (by decide), kp_wi_ne (by omega)]) t2.2.1
  have kK : kx_K X s.1 ≠ 0 ∧ kx_K X s.1 ≠ 1 := by rw [hK]; unfold kx_sg4 at hk; omega
  obtain ⟨τ3, u1, u2, u3⟩ := kM_gon rm2 e0 kK
  rw [hK] at u2
  have FR : kx_fr (kx_eP sd c0) kx_n0 σ τ3 := (t3.o2.tr (cw.mono (fun a b q => by unfold kx_eP; omega) (fun _ _ q => q))).tr u3.m2
  have run : f_X12_expression_96 (f_X12_expression_12 (N + 1)) (G + 1) 77 0 σ = f_X12_expression_12 (N + 1) 77 0 1 τ3 := by
    rw [kM_oph _ G rm e0 hK hk]
    unfold f_X12_expression_234
    simp only [kz_lt]
    rw [t1, Option.bind_some, e11, kr77_5, kl80, if_pos (kf_ixN (by omega) (by decide)), t2.1, kr77_46, kl108, if_pos (kf_ixN (by omega) (by decide)), nI_clamp (by omega), nI_clamp (by omega), e80, kp_wi_row (by decide), t2.1, nI_1, hρ, u1, Option.bind_some]
  have r12 : f_X12_expression_12 (N + 1) 77 0 1 τ3 = if τ3.1 77 13 = 0 then f_X12_expression_23 (f_X12_expression_12 N) kf_F 77 0 τ3 else some τ3 := by
    show f_X12_expression_12_s (f_X12_expression_12 N) 77 0 1 τ3 = _
    unfold f_X12_expression_12_s
    rw [if_neg (by decide)]
  have f2 := u2.1.2
  have lf : (kx_fl P).length = P.length := by unfold kx_fl; exact List.length_map ..
  refine ⟨fun q => ⟨τ3, ?_, ?_, FR⟩, fun q => ⟨τ3, ?_, u2, FR⟩⟩
  · rw [run, r12, u2.2.2.1, if_pos (show nI _ = 0 by rw [q]; rfl)]
  · obtain ⟨z1, z2, z3, z4⟩ := kx_tk_0 q
    have em : kx_km k = 8 ∨ kx_km k = 9 ∨ kx_km k = 10 ∨ kx_km k = 15 := by
      rcases hk with ⟨-, hk⟩ | ⟨-, hk⟩ <;> rcases hk with hk | hk <;> rw [hk] <;> decide
    refine ⟨u2, q, (u3.1 77 12 (by unfold kx_mT; omega)).trans ((cw.1 77 12 (by omega)).trans ((t3.1 77 12 (by unfold kx_oP; omega)).trans eo)), ws2.m u3 (fun a b q => by unfold kx_mT at q; omega), ?_, by show V.length + 1 ≤ 60; omega, ?_, en⟩
    · rw [z4, List.length_append, lf]
      rw [List.length_append] at el
      show _ + (V.length + 1) ≤ s.1 + 1
      omega
    · intro w hw
      rcases List.mem_cons.mp hw with z | z
      · rw [z]; omega
      · exact kx_wv_app ev w z
  · rw [run, r12, u2.2.2.1, if_neg (nI_ne0 (by omega) (by omega))]
theorem kx_tk_le (X : kx_X) (d : Nat) (s : kx_S) : s.1 ≤ (kx_tk X d s).1 := by
  by_cases h1 : s.2 = 0
  · by_cases h2 : kx_K X s.1 = d
    · by_cases h3 : s.1 < 400
      · rw [kx_tk_1 h1 h2 h3]; exact Nat.le_succ _
      · rw [kx_tk_2 h1 h2 h3]; exact Nat.le_refl _
    · rw [kx_tk_3 h1 h2]; exact Nat.le_refl _
  · rw [kx_tk_f h1]; exact Nat.le_refl _
theorem kx_un_le {X : kx_X} {rs : Nat → kx_S → kx_S × List kx_o} {n : Nat} {s : kx_S} (hK : ¬ kx_K X s.1 = 40) : s.1 ≤ (kx_un X rs n s).1.1 := by
  unfold kx_un
  by_cases h0 : s.2 = 0
  · rw [if_pos h0]
    by_cases h1 : kx_K X s.1 = 3
    · rw [if_pos h1]; exact kx_tk_le X 3 s
    · rw [if_neg h1]
      by_cases h2 : 268 ≤ kx_K X s.1 ∧ kx_K X s.1 ≤ 276
      · rw [if_pos h2]; exact kx_tk_le X _ s
      · rw [if_neg h2, if_neg hK]; exact Nat.le_refl _
  · rw [if_neg h0]; exact Nat.le_refl _
/-! units -/
def kx_u0 (s : kx_S) : kx_S × List kx_o := (s, [])
theorem kM_un1 {X : kx_X} {sd n c0 : Nat} {s : kx_S} {W : List Nat} {cs : List kx_o} {σ : kf_St} {rs : Nat → kx_S → kx_S × List kx_o} (hs : sd < 2) (h : kx_ES X sd n s W cs σ) (hK : ¬ kx_K X s.1 = 40) (h0 : c0 ≤ 420 * sd + cs.length) : ∃ τ, f_X12_unit 77 σ = some τ ∧ kx_RM X (kx_un X rs n s).1 τ ∧ kx_fr (kx_eP sd c0) kx_n0 σ τ ∧ ((kx_un X rs n s).1.2 = 0 → kx_ES X sd n (kx_un X rs n s).1 W (cs ++ (kx_un X rs n s).2) τ) := by
  obtain ⟨rm, e0, eo, ws, el, ew, ev, en⟩ := h
  have t4 := rm.1.1.1
  have e11 := rm.2.2.2.1 e0
  have kl := kx_K_lt X s.1
  have emit : ∀ k v, kx_K X s.1 ≠ 0 → kx_K X s.1 ≠ 1 → ∃ τ1 τ, f_X12_emit 77 (nI k) (nI v) σ = some τ1 ∧ f_X12_goesOn 77 τ1 = some τ ∧ kx_RM X (kx_tk X (kx_K X s.1) s) τ ∧ kx_fr (kx_eP sd c0) kx_n0 σ τ ∧ ((kx_tk X (kx_K X s.1) s).2 = 0 → kx_ES X sd n (kx_tk X (kx_K X s.1) s) W (cs ++ [(k, v)]) τ) := by
    intro k v k0 k1
    obtain ⟨τ1, t1, t2, t3⟩ := kM_emit (k := k) (v := v) (c0 := c0) hs ws.2.2 (by omega) h0
    have rm1 : kx_RM X s τ1 := rm.fr t3 (fun a b _ _ q => by omega) (fun b q => q) ⟨by omega, by omega, by omega⟩
    obtain ⟨τ, u1, u2, u3⟩ := kM_gon rm1 e0 ⟨k0, k1⟩
    refine ⟨τ1, τ, t1, u1, u2, t3.e2.tr u3.m2, fun q => ?_⟩
    obtain ⟨z1, z2, z3, z4⟩ := kx_tk_0 q
    have ws1 : kx_WS sd W (cs ++ [(k, v)]) τ1 := ⟨(t3.1 77 47 (by omega)).trans ws.1, by rw [t3.row (fun b => by omega)]; exact ws.2.1, t2⟩
    refine ⟨u2, q, (u3.1 77 12 (by unfold kx_mT; omega)).trans ((t3.1 77 12 (by omega)).trans eo), ws1.m u3 (fun a b q => by unfold kx_mT at q; omega), ?_, ew, ev, en⟩
    rw [z4, List.length_append]
    show cs.length + 1 + W.length ≤ s.1 + 1
    omega
  have e80 := (rm.2.1 s.1 rm.1.1).1
  have ix : kf_ix (nI s.1) 403 = true := kf_ixN (by omega) (by decide)
  unfold f_X12_unit f_X12_unit_88 kx_un
  rw [if_pos e0]
  by_cases c1 : kx_K X s.1 = 3
  · rw [show f_X12_is 77 2 σ = some (1, σ) from kM_isT (k := 3) rm e0 c1, Option.bind_some]
    dsimp only
    rw [if_neg (by decide), if_pos c1, e11, kr77_7, kl82, if_pos ix, nI_clamp (by omega), (rm.2.1 s.1 rm.1.1).2.2.1 c1]
    obtain ⟨τ1, τ, m1, m2, m3, m4, m5⟩ := emit 0 (kx_N X s.1) (by omega) (by omega)
    rw [c1] at m3 m5
    refine ⟨τ, ?_, m3, m4, m5⟩
    rw [show f_X12_emit 77 0 (nI (kx_N X s.1)) σ = some τ1 from m1, Option.bind_some, m2, Option.bind_some]
  rw [show f_X12_is 77 2 σ = some (0, σ) from kM_isF (k := 3) rm rfl (by decide) (fun _ => c1), Option.bind_some]
  dsimp only
  rw [if_pos rfl, if_neg c1, rm.2.2.1, if_pos (show nI s.2 = 0 by rw [e0]; rfl), e11, kr77_5, kl80, if_pos ix, nI_clamp (by omega), e80]
  have km41 := kx_km_lt (kx_Kv X s.1)
  by_cases c2 : 268 ≤ kx_K X s.1 ∧ kx_K X s.1 ≤ 276
  · have ek : kx_km (kx_K X s.1) = kx_K X s.1 - 236 := by
      unfold kx_km
      rw [if_neg (by omega), if_neg (by omega), if_neg (by omega), if_neg (by omega), if_neg (by omega), if_neg (by omega), if_neg (by omega), if_neg (by omega), if_neg (by omega), if_neg (by omega), if_neg (by omega), if_neg (by omega), if_neg (by omega)]
    rw [if_pos c2, ek, if_neg (show ¬ nI (kx_K X s.1 - 236) < 32 from nI_nlt (b := 32) (by omega) (by omega)), if_pos ix, if_neg (show ¬ (40 : Int32) < nI (kx_K X s.1 - 236) from nI_nlt (a := 40) (by omega) (by decide)), if_pos ix, show nI (kx_K X s.1 - 236) - 32 = nI (kx_K X s.1 - 236 - 32) from pk_sub (b := 32) (by omega), show kx_K X s.1 - 236 - 32 = kx_K X s.1 - 268 by omega]
    obtain ⟨τ1, τ, m1, m2, m3, m4, m5⟩ := emit 1 (kx_K X s.1 - 268) (by omega) (by omega)
    refine ⟨τ, ?_, m3, m4, m5⟩
    rw [show f_X12_emit 77 1 (nI (kx_K X s.1 - 268)) σ = some τ1 from m1, Option.bind_some, m2, Option.bind_some]
  · rw [if_neg c2, if_neg hK]
    obtain ⟨τ1, t1, t2, t3⟩ := kM_fail (k := 1) rm (by decide)
    rw [if_pos e0] at t2
    have nb : kx_km (kx_K X s.1) < 32 ∨ 40 < kx_km (kx_K X s.1) := by
      by_cases q1 : kx_km (kx_K X s.1) < 32
      · exact Or.inl q1
      · exfalso
        have z := (kx_ki_all _ kl (kx_vk_b (kx_Kv X s.1))).1
        unfold kx_ki at z
        rw [if_neg (by omega), if_neg (by omega), if_neg (by omega), if_neg (by omega), if_neg (by omega), if_neg (by omega), if_neg (by omega), if_neg (by omega), if_neg (by omega), if_neg (by omega), if_neg (by omega), if_neg (by omega), if_neg (by omega)] at z
        omega
    refine ⟨τ1, ?_, t2, t3.f2, fun q => absurd q (by show ¬ 1 = 0; decide)⟩
    rw [show f_X12_fail 77 1 σ = some τ1 from t1, Option.bind_some]
    rcases nb with q | q
    · rw [if_pos (show nI (kx_km (kx_K X s.1)) < 32 from nI_lt (b := 32) q (by decide))]
    · omega
