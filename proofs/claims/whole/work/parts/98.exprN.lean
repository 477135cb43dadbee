/-! ===== pure: the reference reads sums (2) ===== -/
theorem kM_close {X : kx_X} {sd n c0 N G : Nat} {s : kx_S} {P W : List Nat} {cs : List kx_o} {σ : kf_St} (hs : sd < 2) (h : kx_ES X sd (n + 1) s (P ++ 6 :: W) cs σ) (hP : ∀ w, w ∈ P → kx_dr false w) (hK : ¬ (kx_K X s.1 = 42 ∨ kx_K X s.1 = 47 ∨ kx_K X s.1 = 43 ∨ kx_K X s.1 = 45)) (h0 : c0 ≤ 420 * sd + cs.length) (hG : 0 < G) : ((kx_tk X 41 s).2 = 0 → ∃ τ, f_X12_expression_96 (f_X12_expression_12 N) (G + 1) 77 0 σ = f_X12_expression_96 (f_X12_expression_12 N) G 77 0 τ ∧ kx_ES X sd n (kx_tk X 41 s) W (cs ++ kx_fl P) τ ∧ kx_fr (kx_eP sd c0) kx_n0 σ τ) ∧ ((kx_tk X 41 s).2 ≠ 0 → ∃ τ, f_X12_expression_96 (f_X12_expression_12 N) (G + 1) 77 0 σ = some τ ∧ kx_RM X (kx_tk X 41 s) τ ∧ kx_fr (kx_eP sd c0) kx_n0 σ τ) := by
  obtain ⟨rm, e0, eo, ws, el, ew, ev, en⟩ := h
  have t4 := rm.1.1.1
  have lf : (kx_fl P).length = P.length := by unfold kx_fl; exact List.length_map ..
  rw [List.length_append, List.length_cons] at el ew
  have kk : ∀ q : s.2 = 0, ¬ kx_K X s.1 = 43 ∧ ¬ kx_K X s.1 = 45 ∧ ¬ kx_K X s.1 = 42 ∧ ¬ kx_K X s.1 = 47 := fun _ => by omega
  by_cases c : kx_K X s.1 = 41
  · obtain ⟨τ1, t1, t2, t3⟩ := kM_out (c0 := c0) (g := false) hs hP (show kx_st false (6 :: W) from Or.inl rfl) ws (by rw [List.length_append, List.length_cons]; omega) (by rw [List.length_append, List.length_cons]; omega) h0
    have rm1 := rm.o t3
    have w47 : τ1.1 77 47 = nI (W.length + 1) := t2.1
    have w12 : τ1.1 77 12 = nI (n + 1) := (t3.1 77 12 (by unfold kx_oP; omega)).trans eo
    have cw : kx_fr (fun a b => a = 77 ∧ (b = 12 ∨ b = 47)) kx_n0 τ1 (kf_wi (kf_wi τ1 77 47 (nI W.length)) 77 12 (nI n)) := (kx_fr.rf.wi ⟨rfl, Or.inr rfl⟩).wi ⟨rfl, Or.inl rfl⟩
    generalize hρ : kf_wi (kf_wi τ1 77 47 (nI W.length)) 77 12 (nI n) = ρ at cw
    have rm2 : kx_RM X s ρ := rm1.fr cw (fun a b _ _ q => by omega) (fun b q => q) ⟨by omega, by omega, by omega⟩
    have ws2 : kx_WS sd W (cs ++ kx_fl P) ρ := by
      refine ⟨by rw [← hρ, kp_wi_ne (by omega), kp_wi_same], ?_, (cw.1 77 43 (by omega)).trans t2.2.2.1, ?_⟩
      · rw [cw.row (fun b => by omega)]; exact t2.2.1.2
      · rw [cw.row (a := 106) (fun b => by omega), cw.row (a := 107) (fun b => by omega)]; exact t2.2.2.2
    have o2 : ρ.1 77 12 = nI n := by rw [← hρ, kp_wi_same]
    obtain ⟨τ3, u1, u2, u3⟩ := kM_gon rm2 e0 (by rw [c]; decide)
    rw [c] at u2
    have o3 : τ3.1 77 12 = nI n := (u3.1 77 12 (by unfold kx_mT; omega)).trans o2
    have ws3 := ws2.m u3 (fun a b q => by unfold kx_mT at q; omega)
    have wvW : kx_wv W := fun w hw => kx_wv_app ev w (List.mem_cons_of_mem _ hw)
    have FR : kx_fr (kx_eP sd c0) kx_n0 σ τ3 := (t3.o2.tr (cw.mono (fun a b q => by unfold kx_eP; omega) (fun _ _ q => q))).tr u3.m2
    have run : f_X12_expression_96 (f_X12_expression_12 N) (G + 1) 77 0 σ = f_X12_expression_96 (f_X12_expression_12 N) G 77 0 τ3 := by
      show f_X12_expression_96_s _ _ 77 0 σ = _
      unfold f_X12_expression_96_s
      simp only [kz_lt]
      rw [show f_X12_is 77 7 σ = some (1, σ) from kM_isT (k := 41) rm e0 c, Option.bind_some]
      dsimp only
      rw [if_neg (by decide), eo, if_neg (nI_nle (by omega) (by omega)), show f_X12_comesOut 77 0 σ = some τ1 from t1, Option.bind_some, w47, kx_s1, kp_wi_ne (by omega), w12, kx_s1, hρ, u1, Option.bind_some]
    refine ⟨fun q => ⟨τ3, run, ?_, FR⟩, fun q => ?_⟩
    · obtain ⟨z1, z2, z3, z4⟩ := kx_tk_0 q
      refine ⟨u2, q, o3, ws3, ?_, by omega, wvW, by omega⟩
      rw [z4, List.length_append, lf]
      show _ ≤ s.1 + 1
      omega
    · obtain ⟨τ4, v1, v2, v3⟩ := kM_96F (c0 := c0) (f_X12_expression_12 N) hs u2 q o3 (by omega) wvW ws3 (by omega) (by rw [List.length_append, lf]; omega) (by rw [List.length_append]; omega) hG
      exact ⟨τ4, run.trans v1, v2, FR.tr v3⟩
  · refine ⟨fun q => absurd (kx_tk_0 q).2.1 c, fun _ => ?_⟩
    obtain ⟨τ1, t1, t2, t3⟩ := kM_fail (k := 1) rm (by decide)
    rw [if_pos e0] at t2
    have ws1 := ws.m t3 (fun a b q => by omega)
    obtain ⟨τ2, u1, u2, u3⟩ := kM_out (c0 := c0) (g := false) hs hP (show kx_st false (6 :: W) from Or.inl rfl) ws1 (by rw [List.length_append, List.length_cons]; omega) (by rw [List.length_append, List.length_cons]; omega) h0
    rw [kx_tk_3 e0 c]
    refine ⟨τ2, ?_, t2.o u3, t3.f2.tr u3.o2⟩
    show f_X12_expression_96_s _ _ 77 0 σ = _
    unfold f_X12_expression_96_s
    rw [show f_X12_is 77 7 σ = some (0, σ) from kM_isF (k := 41) rm rfl (by decide) (fun _ => c), Option.bind_some]
    dsimp only
    rw [if_pos rfl, kM_145F _ rm kk]
    unfold f_X12_expression_186 f_X12_expression_204
    rw [if_pos rfl, eo, if_neg (nI_nle (by omega) (by omega)), show f_X12_fail 77 1 σ = some τ1 from t1, Option.bind_some, show f_X12_comesOut 77 0 τ1 = some τ2 from u1, Option.bind_some]
def kx_uE (X : kx_X) (sd n : Nat) (u : kx_sf) (B : Nat) : Prop := ∀ s W cs σ N F c0, kx_ES X sd n s W cs σ → W.length ≤ B → c0 ≤ 420 * sd + cs.length → 1000 ≤ N + s.1 → 1000 ≤ F + s.1 → kx_OP X sd n c0 (f_X12_expression_23 (f_X12_expression_12 N) F 77 0 σ) σ (u s) W cs (fun P => P = []) (fun _ => False)
def kx_p2 (P : List Nat) : Prop := (∀ w, w ∈ P → kx_dr false w) ∧ P.length ≤ 2
def kx_k4 (k : Nat) : Prop := k = 42 ∨ k = 47 ∨ k = 43 ∨ k = 45
def kx_sE (X : kx_X) (sd n : Nat) (u : kx_sf) (B : Nat) : Prop := ∀ s W cs σ N F c0, kx_ES X sd n s W cs σ → kx_st false W → W.length ≤ B → c0 ≤ 420 * sd + cs.length → 1000 ≤ N + s.1 → 1000 ≤ F + s.1 → kx_OP X sd n c0 (f_X12_expression_23 (f_X12_expression_12 N) F 77 0 σ) σ (u s) W cs kx_p2 kx_k4
theorem kx_cs_le {X : kx_X} {sd n : Nat} {s : kx_S} {W : List Nat} {cs : List kx_o} {σ : kf_St} (h : kx_ES X sd n s W cs σ) : s.1 ≤ 400 := h.1.1.1.1
theorem kM_push {X : kx_X} {s s' : kx_S} {sd n c0 : Nat} {W : List Nat} {cs : List kx_o} {σ τ : kf_St} (h : kx_RM X s σ) (ho : σ.1 77 12 = nI n) (ws : kx_WS sd W cs σ) (hl : W.length ≤ 60) (k : Nat) : kx_RM X s (kf_wi (kf_wi σ 108 W.length (nI k)) 77 47 (nI (W.length + 1))) ∧ (kf_wi (kf_wi σ 108 W.length (nI k)) 77 47 (nI (W.length + 1))).1 77 12 = nI n ∧ kx_WS sd (k :: W) cs (kf_wi (kf_wi σ 108 W.length (nI k)) 77 47 (nI (W.length + 1))) ∧ kx_fr (kx_eP sd c0) kx_n0 σ (kf_wi (kf_wi σ 108 W.length (nI k)) 77 47 (nI (W.length + 1))) := by
  have cw : kx_fr (fun a b => a = 108 ∨ (a = 77 ∧ b = 47)) kx_n0 σ (kf_wi (kf_wi σ 108 W.length (nI k)) 77 47 (nI (W.length + 1))) := (kx_fr.rf.wi (Or.inl rfl)).wi (Or.inr ⟨rfl, rfl⟩)
  refine ⟨h.fr cw (fun a b _ _ q => by omega) (fun b q => q) ⟨by omega, by omega, by omega⟩, (cw.1 77 12 (by omega)).trans ho, ⟨kp_wi_same _ _ _ _, ⟨?_, ?_⟩, (cw.1 77 43 (by omega)).trans ws.2.2.1, ?_⟩, cw.mono (fun a b q => by unfold kx_eP; omega) (fun _ _ q => q)⟩
  · rw [kp_wi_row (by decide), kp_wi_same]
  · exact kx_wk_c W (fun i hi => by rw [kp_wi_row (by decide), kp_wi_ne (by omega)]) ws.2.1
  · rw [cw.row (a := 106) (fun b => by omega), cw.row (a := 107) (fun b => by omega)]; exact ws.2.2.2
theorem kM_unE {X : kx_X} {sd n : Nat} {rs : Nat → kx_S → kx_S × List kx_o} (hs : sd < 2) (hn : n ≤ 6) (hr : n < 6 → kx_sE X sd (n + 1) (rs (n + 1)) (3 * (n + 1))) (hg : n < 6 → ∀ s, kx_g X s → kx_g X (rs (n + 1) s).1 ∧ (s.2 ≠ 0 → (rs (n + 1) s).1 = s)) : kx_uE X sd n (kx_un X rs n) (3 * n + 2) := by
  intro s W cs σ N F c0 h hB h0 hN hF
  have t4 := kx_cs_le h
  obtain ⟨F, rfl⟩ := kp_fuel (show 0 < F by omega)
  have kF : 2000 ≤ kf_F := by decide
  by_cases c : kx_K X s.1 = 40
  · obtain ⟨rm, e0, eo, ws, el, ew, ev, en⟩ := h
    have eun : kx_un X rs n s = if n < 6 then (kx_tk X 41 (rs (n + 1) (kx_tk X 40 s)).1, (rs (n + 1) (kx_tk X 40 s)).2) else ((s.1, 2), []) := by
      unfold kx_un
      rw [if_pos e0, if_neg (by omega), if_neg (by omega), if_pos c]
    have head : ∀ z, (if n = 6 then (f_X12_fail 77 2 σ).bind fun q_6 => f_X12_expression_46 (f_X12_expression_12 N) (f_X12_expression_23 (f_X12_expression_12 N) F) 77 0 q_6 else f_X12_expression_46 (f_X12_expression_12 N) (f_X12_expression_23 (f_X12_expression_12 N) F) 77 0 σ) = z → f_X12_expression_23 (f_X12_expression_12 N) (F + 1) 77 0 σ = z := by
      intro z hz
      show f_X12_expression_23_s _ _ 77 0 σ = z
      unfold f_X12_expression_23_s
      rw [show f_X12_is 77 6 σ = some (1, σ) from kM_isT (k := 40) rm e0 c, Option.bind_some]
      dsimp only
      rw [if_neg (by decide), eo, ← hz]
      by_cases q : n = 6
      · rw [if_pos (show nI n = 6 by rw [q]; rfl), if_pos q]
      · rw [if_neg (show ¬ nI n = 6 from fun z => q ((nI_eq (b := 6) (by omega) (by decide)).mp z)), if_neg q]
    have body : ∀ (s1 s2 : kx_S) (τ1 τ2 : kf_St), kx_RM X s1 τ1 → τ1.1 77 12 = nI n → kx_WS sd W cs τ1 → kx_fr (kx_eP sd c0) kx_n0 σ τ1 → f_X12_goesOn 77 (kf_wi τ1 77 12 (nI (n + 1))) = some τ2 → kx_RM X s2 τ2 → kx_fr kx_mT kx_n0 (kf_wi τ1 77 12 (nI (n + 1))) τ2 → ∃ ρ, f_X12_expression_46 (f_X12_expression_12 N) (f_X12_expression_23 (f_X12_expression_12 N) F) 77 0 τ1 = f_X12_expression_23 (f_X12_expression_12 N) F 77 0 ρ ∧ kx_RM X s2 ρ ∧ ρ.1 77 12 = nI (n + 1) ∧ kx_WS sd (6 :: W) cs ρ ∧ kx_fr (kx_eP sd c0) kx_n0 σ ρ := by
      intro s1 s2 τ1 τ2 r1 o1 w1 f1 g1 r2 f2
      have c12 : kx_fr (fun a b => a = 77 ∧ b = 12) kx_n0 τ1 (kf_wi τ1 77 12 (nI (n + 1))) := kx_fr.rf.wi ⟨rfl, rfl⟩
      have w2 := (w1.m c12 (fun a b q => by omega)).m f2 (fun a b q => by unfold kx_mT at q; omega)
      have o2 : τ2.1 77 12 = nI (n + 1) := (f2.1 77 12 (by unfold kx_mT; omega)).trans (kp_wi_same _ _ _ _)
      obtain ⟨p1, p2, p3, p4⟩ := kM_push (c0 := c0) (s' := s2) (τ := τ2) r2 o2 w2 (by omega) 6
      refine ⟨_, ?_, p1, p2, p3, ((f1.tr (c12.mono (fun a b q => by unfold kx_eP; omega) (fun _ _ q => q))).tr f2.m2).tr p4⟩
      unfold f_X12_expression_46
      simp only [kz_lt]
      rw [o1, nI_1, g1, Option.bind_some, w2.1, kr77_46, kl108, if_pos (kf_ixN (by omega) (by decide)), nI_clamp (by omega), kp_wi_row (by decide), w2.1, nI_1]
      rfl
    rw [eun]
    by_cases c6 : n < 6
    · rw [if_pos c6]
      have c12 : kx_fr (fun a b => a = 77 ∧ b = 12) kx_n0 σ (kf_wi σ 77 12 (nI (n + 1))) := kx_fr.rf.wi ⟨rfl, rfl⟩
      have rm1 : kx_RM X s (kf_wi σ 77 12 (nI (n + 1))) := rm.fr c12 (fun a b _ _ q => by omega) (fun b q => q) ⟨by omega, by omega, by omega⟩
      obtain ⟨τ2, g1, g2, g3⟩ := kM_gon rm1 e0 (by rw [c]; decide)
      rw [c] at g2
      obtain ⟨ρ, b1, b2, b3, b4, b5⟩ := body s (kx_tk X 40 s) σ τ2 rm eo ws kx_fr.rf g1 g2 g3
      have H := head _ ((if_neg (show ¬ n = 6 by omega)).trans b1)
      obtain ⟨gg1, gg2⟩ := hg c6 (kx_tk X 40 s) g2.1
      by_cases z0 : (kx_tk X 40 s).2 = 0
      · obtain ⟨y1, y2, y3, y4⟩ := kx_tk_0 z0
        have es : (kx_tk X 40 s).1 = s.1 + 1 := by rw [y4]
        have ES1 : kx_ES X sd (n + 1) (kx_tk X 40 s) (6 :: W) cs ρ := ⟨b2, z0, b3, b4, by rw [es]; show cs.length + (W.length + 1) ≤ s.1 + 1; omega, by show W.length + 1 ≤ 60; omega, fun w hw => by
          rcases List.mem_cons.mp hw with z | z
          · exact Or.inl z
          · exact ev w z, by omega⟩
        obtain ⟨r1, r2⟩ := hr c6 (kx_tk X 40 s) (6 :: W) cs ρ N F c0 ES1 (Or.inl rfl) (by show W.length + 1 ≤ _; omega) h0 (by rw [es]; omega) (by rw [es]; omega)
        by_cases z1 : (rs (n + 1) (kx_tk X 40 s)).1.2 = 0
        · obtain ⟨N', G', τ, P, cs', m1, m2, m3, mc, m4, m5, m6, m7, m8⟩ := r1 z1
          have t4' := kx_cs_le m2
          obtain ⟨G', rfl⟩ := kp_fuel (show 0 < G' by omega)
          have hc0 : c0 ≤ 420 * sd + cs'.length := by
            omega
          obtain ⟨d1, d2⟩ := kM_close (c0 := c0) (N := N') (G := G') hs m2 m4.1 m5 hc0 (by omega)
          refine ⟨fun q => ?_, fun q => ?_⟩
          · obtain ⟨τ', n1, n2, n3⟩ := d1 q
            obtain ⟨x1, x2, x3, x4⟩ := kx_tk_0 q
            have e41 : (kx_tk X 41 (rs (n + 1) (kx_tk X 40 s)).1).1 = (rs (n + 1) (kx_tk X 40 s)).1.1 + 1 := by rw [x4]
            refine ⟨N', G', τ', [], cs' ++ kx_fl P, H.trans (m1.trans n1), n2, ?_, by rw [List.length_append]; omega, rfl, fun q => q, ?_, ?_, b5.tr (m8.tr n3)⟩
            · show cs' ++ kx_fl P ++ [] = _
              rw [List.append_nil]; exact m3
            · show 1000 ≤ N' + (kx_tk X 41 (rs (n + 1) (kx_tk X 40 s)).1).1
              rw [e41]; omega
            · show 1000 ≤ G' + (kx_tk X 41 (rs (n + 1) (kx_tk X 40 s)).1).1
              rw [e41]; omega
          · obtain ⟨τ', n1, n2, n3⟩ := d2 q
            exact ⟨τ', H.trans (m1.trans n1), n2, b5.tr (m8.tr n3)⟩
        · have et : kx_tk X 41 (rs (n + 1) (kx_tk X 40 s)).1 = (rs (n + 1) (kx_tk X 40 s)).1 := kx_tk_f z1
          rw [et]
          refine ⟨fun q => absurd q z1, fun q => ?_⟩
          obtain ⟨τ', n1, n2, n3⟩ := r2 z1
          exact ⟨τ', H.trans n1, n2, b5.tr n3⟩
      · have e1 : (rs (n + 1) (kx_tk X 40 s)).1 = kx_tk X 40 s := gg2 z0
        rw [e1, kx_tk_f z0]
        refine ⟨fun q => absurd q z0, fun q => ?_⟩
        obtain ⟨τ', n1, n2, n3⟩ := kM_23F (f_X12_expression_12 N) b2 z0 (show 0 < F by omega)
        exact ⟨τ', H.trans n1, n2, b5.tr n3.f2⟩
    · rw [if_neg c6]
      obtain ⟨τ1, t1, t2, t3⟩ := kM_fail (k := 2) rm (by decide)
      rw [if_pos e0] at t2
      have c12 : kx_fr (fun a b => a = 77 ∧ b = 12) kx_n0 τ1 (kf_wi τ1 77 12 (nI (n + 1))) := kx_fr.rf.wi ⟨rfl, rfl⟩
      have rm1 : kx_RM X (s.1, 2) (kf_wi τ1 77 12 (nI (n + 1))) := t2.fr c12 (fun a b _ _ q => by omega) (fun b q => q) ⟨by omega, by omega, by omega⟩
      obtain ⟨τ2, g1, g2, g3⟩ := kM_gonF rm1 (show (2 : Nat) ≠ 0 by decide)
      obtain ⟨ρ, b1, b2, b3, b4, b5⟩ := body (s.1, 2) (s.1, 2) τ1 τ2 t2 ((t3.1 77 12 (by omega)).trans eo) (ws.m t3 (fun a b q => by omega)) t3.f2 g1 g2 g3
      have H := head (f_X12_expression_23 (f_X12_expression_12 N) F 77 0 ρ) (by
        rw [if_pos (show n = 6 by omega), show f_X12_fail 77 2 σ = some τ1 from t1, Option.bind_some]
        exact b1)
      refine ⟨fun q => absurd q (by show ¬ 2 = 0; decide), fun q => ?_⟩
      obtain ⟨τ', n1, n2, n3⟩ := kM_23F (f_X12_expression_12 N) b2 (show (2 : Nat) ≠ 0 by decide) (show 0 < F by omega)
      exact ⟨τ', H.trans n1, n2, b5.tr n3.f2⟩
  · obtain ⟨τ, m1, m2, m3, m4⟩ := kM_un1 (rs := rs) (c0 := c0) hs h c h0
    have f2 := m2.1.2
    have H : f_X12_expression_23 (f_X12_expression_12 N) (F + 1) 77 0 σ = if τ.1 77 13 ≤ 0 then f_X12_expression_96 (f_X12_expression_12 N) kf_F 77 0 τ else some τ := by
      show f_X12_expression_23_s _ _ 77 0 σ = _
      unfold f_X12_expression_23_s
      rw [show f_X12_is 77 6 σ = some (0, σ) from kM_isF (k := 40) h.1 rfl (by decide) (fun _ => c), Option.bind_some]
      dsimp only
      rw [if_pos rfl, m1, Option.bind_some]
    refine ⟨fun q => ?_, fun q => ?_⟩
    · have es := m4 q
      refine ⟨N, kf_F, τ, [], cs ++ (kx_un X rs n s).2, ?_, es, List.append_nil _, by rw [List.length_append]; omega, rfl, fun q => q, ?_, by omega, m3⟩
      · rw [H, m2.2.2.1, if_pos (show nI _ ≤ 0 by rw [q]; exact Int32.le_refl _)]
      · have : s.1 ≤ (kx_un X rs n s).1.1 := kx_un_le c
        omega
    · refine ⟨τ, ?_, m2, m3⟩
      rw [H, m2.2.2.1, if_neg (nI_nle (by omega) (by omega))]
/-! loops: products, sums -/
theorem kx_lp_f {X : kx_X} {a b oa ob : Nat} {u : kx_sf} {p : kx_S × List kx_o} (h : p.1.2 ≠ 0) : ∀ g, kx_lp X a b oa ob u g p = p
  | 0 => rfl
  | g + 1 => by
    show (if p.1.2 = 0 ∧ _ then _ else p) = p
    rw [if_neg (fun q => h q.1)]
def kx_ls (ka kb oa ob : Nat) (g : Bool) : Prop := (ka = 42 ∧ kb = 47 ∧ oa = 4 ∧ ob = 5 ∧ g = true) ∨ (ka = 43 ∧ kb = 45 ∧ oa = 2 ∧ ob = 3 ∧ g = false)
theorem kM_loop {X : kx_X} {sd n ka kb oa ob m : Nat} {g : Bool} {u : kx_sf} {pu : List Nat → Prop} {nk : Nat → Prop} {V : List Nat} (hs : sd < 2) (hk : kx_ls ka kb oa ob g) (hpu : ∀ P, pu P → (∀ w, w ∈ P → kx_dr g w) ∧ P.length + 1 ≤ m) (hu : ∀ k, (k = ka ∨ k = kb) → ∀ s cs σ N F c0, kx_ES X sd n s (kx_km k :: V) cs σ → c0 ≤ 420 * sd + cs.length → 1000 ≤ N + s.1 → 1000 ≤ F + s.1 → kx_OP X sd n c0 (f_X12_expression_23 (f_X12_expression_12 N) F 77 0 σ) σ (u s) (kx_km k :: V) cs pu nk) (hg : ∀ s, kx_g X s → (s.2 ≠ 0 → (u s).1 = s) ∧ ((u s).1.2 = 0 → s.1 < (u s).1.1)) (hV : kx_st g V) (hVl : V.length ≤ 50) : ∀ gas (p : kx_S × List kx_o) P cs C σ N G c0, 401 ≤ gas + p.1.1 → kx_ES X sd n p.1 (P ++ V) cs σ → cs ++ kx_fl P = C ++ p.2 → C.length ≤ cs.length → (∀ w, w ∈ P → kx_dr g w) ∧ P.length ≤ m → ¬ nk (kx_K X p.1.1) → c0 ≤ 420 * sd + cs.length → 1000 ≤ N + p.1.1 → 1000 ≤ G + p.1.1 → kx_OP X sd n c0 (f_X12_expression_96 (f_X12_expression_12 N) G 77 0 σ) σ (kx_lp X ka kb oa ob u gas p) V C (fun P => (∀ w, w ∈ P → kx_dr g w) ∧ P.length ≤ m) (fun k => nk k ∨ k = ka ∨ k = kb) := by
  intro gas
  induction gas with
  | zero =>
    intro p P cs C σ N G c0 hgas h
    have t4 := kx_cs_le h
    omega
  | succ gas ih =>
    intro p P cs C σ N G c0 hgas h hfl hC hP hnk h0 hN hG
    have t4 := kx_cs_le h
    have e0 : p.1.2 = 0 := h.2.1
    rw [show kx_lp X ka kb oa ob u (gas + 1) p = if p.1.2 = 0 ∧ (kx_K X p.1.1 = ka ∨ kx_K X p.1.1 = kb) then kx_lp X ka kb oa ob u gas ((u (kx_tk X (kx_K X p.1.1) p.1)).1, p.2 ++ (u (kx_tk X (kx_K X p.1.1) p.1)).2 ++ [(if kx_K X p.1.1 = ka then oa else ob, 0)]) else p from rfl]
    by_cases c : kx_K X p.1.1 = ka ∨ kx_K X p.1.1 = kb
    · rw [if_pos ⟨e0, c⟩]
      generalize hk1 : kx_K X p.1.1 = k at c
      have sg : kx_sg4 k g := by
        rcases hk with ⟨rfl, rfl, -, -, rfl⟩ | ⟨rfl, rfl, -, -, rfl⟩
        · exact Or.inl ⟨rfl, c⟩
        · exact Or.inr ⟨rfl, c⟩
      have oc : kx_oc (kx_km k) = if k = ka then oa else ob := by
        rcases hk with ⟨rfl, rfl, rfl, rfl, -⟩ | ⟨rfl, rfl, rfl, rfl, -⟩ <;> rcases c with rfl | rfl <;> decide
      have dk : kx_dr g (kx_km k) := by
        rcases hk with ⟨rfl, rfl, -, -, rfl⟩ | ⟨rfl, rfl, -, -, rfl⟩ <;> rcases c with rfl | rfl
        · exact Or.inl (Or.inl rfl)
        · exact Or.inl (Or.inr rfl)
        · exact Or.inr ⟨rfl, Or.inl rfl⟩
        · exact Or.inr ⟨rfl, Or.inr rfl⟩
      obtain ⟨N, rfl⟩ := kp_fuel (show 0 < N by omega)
      obtain ⟨G, rfl⟩ := kp_fuel (show 0 < G by omega)
      obtain ⟨a1, a2⟩ := kM_op (c0 := c0) (N := N) (G := G) hs h hk1 sg hP.1 hV hVl h0
      have kF : 2000 ≤ kf_F := by decide
      have gk : kx_g X (kx_tk X k p.1) := kx_tk_g (by unfold kx_sg4 at sg; omega) h.1.1
      obtain ⟨hg1, hg2⟩ := hg _ gk
      by_cases z : (kx_tk X k p.1).2 = 0
      · obtain ⟨τ, b1, b2, b3⟩ := a1 z
        have es : (kx_tk X k p.1).1 = p.1.1 + 1 := by rw [(kx_tk_0 z).2.2.2]
        obtain ⟨u1, u2⟩ := hu k c (kx_tk X k p.1) (cs ++ kx_fl P) τ N kf_F c0 b2 (by rw [List.length_append]; omega) (by rw [es]; omega) (by omega)
        by_cases z2 : (u (kx_tk X k p.1)).1.2 = 0
        · obtain ⟨N', G', τ', P', cs', m1, m2, m3, mc, m4, m5, m6, m7, m8⟩ := u1 z2
          have lt := hg2 z2
          rw [es] at lt
          have hP' := hpu P' m4
          have flk : kx_fl (P' ++ [kx_km k]) = kx_fl P' ++ [(if k = ka then oa else ob, 0)] := by
            unfold kx_fl
            rw [List.map_append]
            show _ ++ [(kx_oc (kx_km k), 0)] = _
            rw [oc]
          have m2' : kx_ES X sd n (u (kx_tk X k p.1)).1 ((P' ++ [kx_km k]) ++ V) cs' τ' := by
            rw [List.append_assoc]; exact m2
          have q := ih ((u (kx_tk X k p.1)).1, p.2 ++ (u (kx_tk X k p.1)).2 ++ [(if k = ka then oa else ob, 0)]) (P' ++ [kx_km k]) cs' C τ' N' G' c0 (by show 401 ≤ gas + (u (kx_tk X k p.1)).1.1; omega) m2' (by
            rw [flk, ← List.append_assoc, m3]
            show _ = C ++ (p.2 ++ (u (kx_tk X k p.1)).2 ++ [(if k = ka then oa else ob, 0)])
            rw [hfl]
            simp only [List.append_assoc]) (by rw [List.length_append] at mc; omega) ⟨fun w hw => by
              rcases List.mem_append.mp hw with x | x
              · exact hP'.1 w x
              · rw [List.mem_singleton.mp x]; exact dk, by rw [List.length_append]; exact hP'.2⟩ m5 (by rw [List.length_append] at mc; omega) m6 m7
          obtain ⟨q1, q2⟩ := q
          refine ⟨fun x => ?_, fun x => ?_⟩
          · obtain ⟨N2, G2, τ2, P2, cs2, n1, n2, n3, n4, n5, n6, n7, n8, n9⟩ := q1 x
            exact ⟨N2, G2, τ2, P2, cs2, b1.trans (m1.trans n1), n2, n3, n4, n5, n6, n7, n8, (b3.tr m8).tr n9⟩
          · obtain ⟨τ2, n1, n2, n3⟩ := q2 x
            exact ⟨τ2, b1.trans (m1.trans n1), n2, (b3.tr m8).tr n3⟩
        · obtain ⟨τ', m1, m2, m3⟩ := u2 z2
          have el : ∀ gg l, (kx_lp X ka kb oa ob u gg ((u (kx_tk X k p.1)).1, l)).1 = (u (kx_tk X k p.1)).1 := by
            intro gg l
            rw [kx_lp_f (by exact z2)]
          refine ⟨fun x => ?_, fun x => ?_⟩
          · rw [el] at x; exact absurd x z2
          · rw [el]; exact ⟨τ', b1.trans m1, m2, b3.tr m3⟩
      · obtain ⟨τ, b1, b2, b3⟩ := a2 z
        have eu := hg1 z
        have el : ∀ gg l, (kx_lp X ka kb oa ob u gg ((u (kx_tk X k p.1)).1, l)).1 = kx_tk X k p.1 := by
          intro gg l
          rw [eu, kx_lp_f (by exact z)]
        refine ⟨fun x => ?_, fun x => ?_⟩
        · rw [el] at x; exact absurd x z
        · rw [el]; exact ⟨τ, b1, b2, b3⟩
    · rw [if_neg (fun q => c q.2)]
      exact ⟨fun _ => ⟨N, G, σ, P, cs, rfl, h, hfl, hC, hP, fun q => q.elim hnk c, hN, hG, kx_fr.rf⟩, fun q => absurd e0 q⟩
theorem kx_gd.h {X : kx_X} {d : Nat} {u : kx_sf} (h : kx_gd X d u) : ∀ s, kx_g X s → (s.2 ≠ 0 → (u s).1 = s) ∧ ((u s).1.2 = 0 → s.1 < (u s).1.1) := fun s hs => ⟨(h s hs).2.1, fun q => ((h s hs).2.2 q).2.1⟩
def kx_p1 (P : List Nat) : Prop := (∀ w, w ∈ P → kx_dr true w) ∧ P.length ≤ 1
theorem kM_prE {X : kx_X} {sd n d : Nat} {u : kx_sf} (hs : sd < 2) (hn : n ≤ 6) (hu : kx_uE X sd n u (3 * n + 2)) (hd : kx_gd X d u) : ∀ s W cs σ N F c0, kx_ES X sd n s W cs σ → kx_st true W → W.length ≤ 3 * n + 1 → c0 ≤ 420 * sd + cs.length → 1000 ≤ N + s.1 → 1000 ≤ F + s.1 → kx_OP X sd n c0 (f_X12_expression_23 (f_X12_expression_12 N) F 77 0 σ) σ (kx_pr X u s) W cs kx_p1 (fun k => False ∨ k = 42 ∨ k = 47) := by
  intro s W cs σ N F c0 h hst hB h0 hN hF
  obtain ⟨a1, a2⟩ := hu s W cs σ N F c0 h (by omega) h0 hN hF
  obtain ⟨g1, g2⟩ := hd.h s h.1.1
  unfold kx_pr
  by_cases z : (u s).1.2 = 0
  · obtain ⟨N', G', τ, P, cs', m1, m2, m3, mc, m4, m5, m6, m7, m8⟩ := a1 z
    have lt := g2 z
    obtain ⟨q1, q2⟩ := kM_loop (ka := 42) (kb := 47) (oa := 4) (ob := 5) (g := true) (m := 1) (u := u) (pu := fun P => P = []) (nk := fun _ => False) (V := W) hs (Or.inl ⟨rfl, rfl, rfl, rfl, rfl⟩) (fun P hP => by rw [hP]; exact ⟨fun w hw => absurd hw List.not_mem_nil, Nat.le_refl _⟩) (fun k hk s' cs1 σ1 N1 F1 c1 e1 e2 e3 e4 => hu s' (kx_km k :: W) cs1 σ1 N1 F1 c1 e1 (by show W.length + 1 ≤ _; omega) e2 e3 e4) hd.h hst (by omega) 400 (u s) P cs' cs τ N' G' c0 (by omega) m2 m3 mc (by rw [m4]; exact ⟨fun w hw => absurd hw List.not_mem_nil, Nat.zero_le _⟩) m5 (by omega) m6 m7
    refine ⟨fun x => ?_, fun x => ?_⟩
    · obtain ⟨N2, G2, τ2, P2, cs2, n1, n2, n3, n4, n5, n6, n7, n8, n9⟩ := q1 x
      exact ⟨N2, G2, τ2, P2, cs2, m1.trans n1, n2, n3, n4, n5, n6, n7, n8, m8.tr n9⟩
    · obtain ⟨τ2, n1, n2, n3⟩ := q2 x
      exact ⟨τ2, m1.trans n1, n2, m8.tr n3⟩
  · rw [kx_lp_f z]
    exact ⟨fun x => absurd x z, fun x => a2 z⟩
theorem kM_smE {X : kx_X} {sd n d : Nat} {u : kx_sf} (hs : sd < 2) (hn : n ≤ 6) (hu : kx_uE X sd n u (3 * n + 2)) (hd : kx_gd X d u) (hd1 : 1 ≤ d) : kx_sE X sd n (kx_sm X u) (3 * n) := by
  intro s W cs σ N F c0 h hst hB h0 hN hF
  have st2 : kx_st true W := by
    match W, hst with
    | [], _ => exact True.intro
    | x :: r, hst =>
      rcases hst with q | q
      · exact Or.inl q
      · exact absurd q.1 (by decide)
  have hp := kx_gd_pr hd hd1
  have pe := kM_prE hs hn hu hd
  obtain ⟨a1, a2⟩ := pe s W cs σ N F c0 h st2 (by omega) h0 hN hF
  obtain ⟨g1, g2⟩ := hp.h s h.1.1
  unfold kx_sm
  by_cases z : (kx_pr X u s).1.2 = 0
  · obtain ⟨N', G', τ, P, cs', m1, m2, m3, mc, m4, m5, m6, m7, m8⟩ := a1 z
    have lt := g2 z
    have dr : ∀ P : List Nat, kx_p1 P → (∀ w, w ∈ P → kx_dr false w) ∧ P.length + 1 ≤ 2 := fun P hP => ⟨fun w hw => by
      rcases hP.1 w hw with q | q
      · exact Or.inl q
      · exact absurd q.1 (by decide), by have := hP.2; omega⟩
    obtain ⟨q1, q2⟩ := kM_loop (ka := 43) (kb := 45) (oa := 2) (ob := 3) (g := false) (m := 2) (u := kx_pr X u) (pu := kx_p1) (nk := fun k => False ∨ k = 42 ∨ k = 47) (V := W) hs (Or.inr ⟨rfl, rfl, rfl, rfl, rfl⟩) dr (fun k hk s' cs1 σ1 N1 F1 c1 e1 e2 e3 e4 => pe s' (kx_km k :: W) cs1 σ1 N1 F1 c1 e1 (by
      rcases hk with rfl | rfl
      · exact Or.inr ⟨rfl, Or.inl rfl⟩
      · exact Or.inr ⟨rfl, Or.inr rfl⟩) (by show W.length + 1 ≤ _; omega) e2 e3 e4) hp.h hst (by omega) 400 (kx_pr X u s) P cs' cs τ N' G' c0 (by omega) m2 m3 mc ⟨(dr P m4).1, by have := (dr P m4).2; omega⟩ m5 (by omega) m6 m7
    refine ⟨fun x => ?_, fun x => ?_⟩
    · obtain ⟨N2, G2, τ2, P2, cs2, n1, n2, n3, n4, n5, n6, n7, n8, n9⟩ := q1 x
      exact ⟨N2, G2, τ2, P2, cs2, m1.trans n1, n2, n3, n4, n5, fun q => n6 (by unfold kx_k4 at q; omega), n7, n8, m8.tr n9⟩
    · obtain ⟨τ2, n1, n2, n3⟩ := q2 x
      exact ⟨τ2, m1.trans n1, n2, m8.tr n3⟩
  · rw [kx_lp_f z]
    exact ⟨fun x => absurd x z, fun x => a2 z⟩
theorem kM_suE {X : kx_X} {sd : Nat} (hs : sd < 2) : ∀ m n, n ≤ 6 → 6 < m + n → kx_sE X sd n (kx_su X m n) (3 * n)
  | 0, n, h1, h2 => by omega
  | m + 1, n, h1, h2 => by
    have hd : kx_gd X (2 * (6 - n) + 1) (kx_un X (kx_su X m) n) := kx_gd_un (fun h => by
      have := kx_gd_su X m (n + 1) (by omega) (by omega)
      rw [show 2 * (6 - (n + 1)) + 3 = 2 * (6 - n) + 1 by omega] at this
      exact this) (by omega)
    have hu : kx_uE X sd n (kx_un X (kx_su X m) n) (3 * n + 2) := kM_unE hs h1 (fun h => kM_suE hs m (n + 1) (by omega) (by omega)) (fun h s g => ⟨(kx_gd_su X m (n + 1) (by omega) (by omega) s g).1, (kx_gd_su X m (n + 1) (by omega) (by omega) s g).2.1⟩)
    exact kM_smE hs h1 hu hd (by omega)
/-- the reference reads sums so -/
def kx_xM (X : kx_X) (sd : Nat) (S : kx_sf) : Prop := ∀ s cs σ c0, kx_RM X s σ → kx_CM sd cs σ → s.2 = 0 → σ.1 77 12 = 0 → cs.length ≤ s.1 → c0 ≤ 420 * sd + cs.length → ∃ τ, f_X12_expression 77 σ = some τ ∧ kx_RM X (S s).1 τ ∧ kx_fr (kx_eP sd c0) kx_n0 σ τ ∧ ((S s).1.2 = 0 → τ.1 77 12 = 0 ∧ kx_CM sd (cs ++ (S s).2) τ ∧ (cs ++ (S s).2).length ≤ (S s).1.1)
theorem kM_expr {X : kx_X} {sd : Nat} (hs : sd < 2) {S : kx_sf} (hS : kx_sE X sd 0 S 0) : kx_xM X sd S := by
  intro s cs σ c0 rm cm e0 eo el h0
  have c47 : kx_fr (fun a b => a = 77 ∧ b = 47) kx_n0 σ (kf_wi σ 77 47 0) := kx_fr.rf.wi ⟨rfl, rfl⟩
  have t4 := rm.1.1.1
  have kF : 2000 ≤ kf_F := by decide
  have rm1 : kx_RM X s (kf_wi σ 77 47 0) := rm.fr c47 (fun a b _ _ q => by omega) (fun b q => q) ⟨by omega, by omega, by omega⟩
  have es : kx_ES X sd 0 s [] cs (kf_wi σ 77 47 0) := ⟨rm1, e0, (kp_wi_ne (by omega)).trans eo, ⟨kp_wi_same _ _ _ _, True.intro, (kp_wi_ne (by omega)).trans cm.1, kx_ma_c cs (fun i _ _ => ⟨kp_wi_row (by decide) i, kp_wi_row (by decide) i⟩) cm.2⟩, by show cs.length + 0 ≤ s.1; omega, Nat.zero_le _, fun w hw => absurd hw List.not_mem_nil, by decide⟩
  have run : f_X12_expression 77 σ = f_X12_expression_23 (f_X12_expression_12 (kf_F - 1)) kf_F 77 0 (kf_wi σ 77 47 0) := by
    unfold f_X12_expression
    simp only [kz_lt]
    rw [kp_wi_ne (by omega), eo, show kf_F = (kf_F - 1) + 1 from rfl]
    show f_X12_expression_12_s (f_X12_expression_12 (kf_F - 1)) 77 0 1 _ = _
    unfold f_X12_expression_12_s
    rw [if_neg (by decide), rm1.2.2.1, if_pos (show nI s.2 = 0 by rw [e0]; rfl)]
    rfl
  obtain ⟨a1, a2⟩ := hS s [] cs _ (kf_F - 1) kf_F c0 es True.intro (Nat.le_refl _) h0 (by omega) (by omega)
  have c47' : kx_fr (kx_eP sd c0) kx_n0 σ (kf_wi σ 77 47 0) := c47.mono (fun a b q => by unfold kx_eP; omega) (fun _ _ q => q)
  by_cases z : (S s).1.2 = 0
  · obtain ⟨N', G', τ, P, cs', m1, m2, m3, mc, m4, m5, m6, m7, m8⟩ := a1 z
    have t4' := kx_cs_le m2
    obtain ⟨G', rfl⟩ := kp_fuel (show 0 < G' by omega)
    obtain ⟨r1, r2, r3, r4, r5, r6, r7, r8⟩ := m2
    obtain ⟨τ2, u1, u2, u3⟩ := kM_out (c0 := c0) (g := false) hs m4.1 (show kx_st false [] from True.intro) r4 (by omega) (by omega) (by omega)
    have lf : (kx_fl P).length = P.length := by unfold kx_fl; exact List.length_map ..
    have m5' : ∀ _ : (S s).1.2 = 0, ¬ kx_K X (S s).1.1 = 43 ∧ ¬ kx_K X (S s).1.1 = 45 ∧ ¬ kx_K X (S s).1.1 = 42 ∧ ¬ kx_K X (S s).1.1 = 47 := fun _ => by unfold kx_k4 at m5; omega
    have r186 : f_X12_expression_186 (f_X12_expression_12 N') 77 0 0 τ = some τ2 := by
      unfold f_X12_expression_186 f_X12_expression_204
      rw [if_pos rfl, r3, if_pos (show nI 0 ≤ 0 from Int32.le_refl _), show f_X12_comesOut 77 0 τ = some τ2 from u1, Option.bind_some]
    refine ⟨τ2, ?_, r1.o u3, (c47'.tr m8).tr u3.o2, fun _ => ⟨(u3.1 77 12 (by unfold kx_oP; omega)).trans r3, ?_, ?_⟩⟩
    · rw [run, m1]
      show f_X12_expression_96_s _ _ 77 0 τ = _
      unfold f_X12_expression_96_s
      by_cases c : kx_K X (S s).1.1 = 41
      · rw [show f_X12_is 77 7 τ = some (1, τ) from kM_isT (k := 41) r1 z c, Option.bind_some]
        dsimp only
        rw [if_neg (by decide), r3, if_pos (show nI 0 ≤ 0 from Int32.le_refl _), kM_145F _ r1 m5', r186]
      · rw [show f_X12_is 77 7 τ = some (0, τ) from kM_isF (k := 41) r1 rfl (by decide) (fun _ => c), Option.bind_some]
        dsimp only
        rw [if_pos rfl, kM_145F _ r1 m5', r186]
    · rw [← m3]; exact u2.2.2
    · rw [← m3, List.length_append, lf]
      rw [List.length_append] at r5
      omega
  · obtain ⟨τ, m1, m2, m3⟩ := a2 z
    exact ⟨τ, run.trans m1, m2, c47'.tr m3, fun q => absurd q z⟩
theorem kM_exprF {X : kx_X} {sd c0 : Nat} {s : kx_S} {σ : kf_St} (h : kx_RM X s σ) (hf : s.2 ≠ 0) : ∃ τ, f_X12_expression 77 σ = some τ ∧ kx_RM X s τ ∧ kx_fr (kx_eP sd c0) kx_n0 σ τ := by
  have c47 : kx_fr (fun a b => a = 77 ∧ b = 47) kx_n0 σ (kf_wi σ 77 47 0) := kx_fr.rf.wi ⟨rfl, rfl⟩
  have rm1 : kx_RM X s (kf_wi σ 77 47 0) := h.fr c47 (fun a b _ _ q => by omega) (fun b q => q) ⟨by omega, by omega, by omega⟩
  have f2 := h.1.2
  refine ⟨_, ?_, rm1, c47.mono (fun a b q => by unfold kx_eP; omega) (fun _ _ q => q)⟩
  unfold f_X12_expression
  simp only [kz_lt]
  rw [show kf_F = (kf_F - 1) + 1 from rfl]
  show f_X12_expression_12_s (f_X12_expression_12 (kf_F - 1)) 77 _ 1 _ = _
  unfold f_X12_expression_12_s
  rw [if_neg (by decide), rm1.2.2.1, if_neg (nI_ne0 (by omega) (by omega))]
theorem kM_expr9 (X : kx_X) {sd : Nat} (hs : sd < 2) : kx_xM X sd (kx_su X 9 0) := kM_expr hs (kM_suE hs 9 0 (by decide) (by decide))
