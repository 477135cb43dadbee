/-! ===== pure: the reference's steps over tokens ===== -/
def kx_ki (m : Nat) : Nat := if m = 0 then 0 else if m = 3 then 1 else if m = 1 then 2 else if m = 2 then 3 else if m = 4 then 59 else if m = 5 then 61 else if m = 6 then 40 else if m = 7 then 41 else if m = 8 then 43 else if m = 9 then 45 else if m = 10 then 42 else if m = 13 then 60 else if m = 15 then 47 else m + 236
def kx_vb (k : Nat) : Bool := decide (k < 4) || kx_sg k || (decide (256 ≤ k) && decide (k ≤ 276))
theorem kx_ki_all : ∀ k, k < 277 → kx_vb k = true → kx_ki (kx_km k) = k ∧ kx_km k < 41 := by decide +kernel
theorem kx_vk_b {k : Nat} (h : kx_vk k) : kx_vb k = true := by
  unfold kx_vb
  rcases h with h | h | h
  · rw [decide_eq_true h]; rfl
  · rw [h, Bool.or_true]; rfl
  · rw [decide_eq_true h.1, decide_eq_true h.2, Bool.or_comm]; rfl
theorem kx_km_inj {a b : Nat} (ha : kx_vk a) (hb : kx_vb b = true) (h : kx_km a = kx_km b) (hb2 : b < 277) : a = b := by
  rw [← (kx_ki_all a (kx_vk_lt ha) (kx_vk_b ha)).1, ← (kx_ki_all b hb2 hb).1, h]
theorem kx_km_lt {a : Nat} (ha : kx_vk a) : kx_km a < 41 := (kx_ki_all a (kx_vk_lt ha) (kx_vk_b ha)).2
theorem kx_Kv (X : kx_X) (n : Nat) : kx_vk (kx_K X n) := kx_to_vk X _
def kx_mT (a b : Nat) : Prop := a = 77 ∧ (b = 11 ∨ b = 13 ∨ b = 14)
def kx_RM (X : kx_X) (s : kx_S) (σ : kf_St) : Prop := kx_g X s ∧ (∀ j, kx_ok X j → kx_aM X j σ) ∧ σ.1 77 13 = nI s.2 ∧ (s.2 = 0 → σ.1 77 11 = nI s.1) ∧ (s.2 ≠ 0 → σ.1 77 14 = nI (kx_P X s.1))
theorem kx_aM.fr {X : kx_X} {j : Nat} {P Q : Nat → Nat → Prop} {σ τ : kf_St} (h : kx_aM X j σ) (c : kx_fr P Q σ τ) (h0 : ∀ a b, 80 ≤ a → a ≤ 82 → ¬ P a b) (h3 : ∀ b, ¬ Q 83 b) : kx_aM X j τ := ⟨(c.1 80 j (h0 80 j (by decide) (by decide))).trans h.1, (c.1 81 j (h0 81 j (by decide) (by decide))).trans h.2.1, fun q => (c.1 82 j (h0 82 j (by decide) (by decide))).trans (h.2.2.1 q), fun q => (c.2 83 j (h3 j)).trans (h.2.2.2 q)⟩
theorem kx_RM.fr {X : kx_X} {s : kx_S} {P Q : Nat → Nat → Prop} {σ τ : kf_St} (h : kx_RM X s σ) (c : kx_fr P Q σ τ) (h0 : ∀ a b, 80 ≤ a → a ≤ 82 → ¬ P a b) (h3 : ∀ b, ¬ Q 83 b) (h7 : ¬ P 77 11 ∧ ¬ P 77 13 ∧ ¬ P 77 14) : kx_RM X s τ := ⟨h.1, fun j hj => (h.2.1 j hj).fr c h0 h3, (c.1 77 13 h7.2.1).trans h.2.2.1, fun q => (c.1 77 11 h7.1).trans (h.2.2.2.1 q), fun q => (c.1 77 14 h7.2.2).trans (h.2.2.2.2 q)⟩
theorem kM_isT {X : kx_X} {s : kx_S} {σ : kf_St} {k : Nat} (h : kx_RM X s σ) (h0 : s.2 = 0) (hK : kx_K X s.1 = k) : f_X12_is 77 (nI (kx_km k)) σ = some (1, σ) := by
  have t4 := h.1.1.1
  unfold f_X12_is
  rw [h.2.2.1, if_pos (show nI s.2 = 0 by rw [h0]; rfl), h.2.2.2.1 h0, kr77_5, kl80, if_pos (kf_ixN (by omega) (by decide)), nI_clamp (by omega), (h.2.1 s.1 h.1.1).1, hK, if_pos rfl]
theorem kM_isF {X : kx_X} {s : kx_S} {σ : kf_St} {k : Nat} (h : kx_RM X s σ) (hk : kx_vb k = true) (hk2 : k < 277) (hK : s.2 = 0 → ¬ kx_K X s.1 = k) : f_X12_is 77 (nI (kx_km k)) σ = some (0, σ) := by
  have t4 := h.1.1.1
  have f2 := h.1.2
  unfold f_X12_is
  rw [h.2.2.1]
  by_cases h0 : s.2 = 0
  · have k1 := kx_km_lt (kx_Kv X s.1)
    have k2 := (kx_ki_all k hk2 hk).2
    rw [if_pos (show nI s.2 = 0 by rw [h0]; rfl), h.2.2.2.1 h0, kr77_5, kl80, if_pos (kf_ixN (by omega) (by decide)), nI_clamp (by omega), (h.2.1 s.1 h.1.1).1, if_neg (fun q => hK h0 (kx_km_inj (kx_Kv X s.1) hk ((nI_eq (by omega) (by omega)).mp q) hk2))]
  · rw [if_neg (nI_ne0 (by omega) (by omega))]
theorem kM_fail {X : kx_X} {s : kx_S} {σ : kf_St} {k : Nat} (h : kx_RM X s σ) (hk : 0 < k ∧ k ≤ 2) : ∃ τ, f_X12_fail 77 (nI k) σ = some τ ∧ kx_RM X (if s.2 = 0 then (s.1, k) else s) τ ∧ kx_fr (fun a b => a = 77 ∧ (b = 13 ∨ b = 14)) kx_n0 σ τ := by
  have t4 := h.1.1.1
  have f2 := h.1.2
  unfold f_X12_fail
  simp only [kz_lt]
  rw [h.2.2.1]
  by_cases h0 : s.2 = 0
  · have c1 : kx_fr (fun a b => a = 77 ∧ (b = 13 ∨ b = 14)) kx_n0 σ (kf_wi (kf_wi σ 77 13 (nI k)) 77 14 (nI (kx_P X s.1))) := (kx_fr.rf.wi ⟨rfl, Or.inl rfl⟩).wi ⟨rfl, Or.inr rfl⟩
    refine ⟨kf_wi (kf_wi σ 77 13 (nI k)) 77 14 (nI (kx_P X s.1)), ?_, ?_, c1⟩
    · rw [if_pos (show nI s.2 ≤ 0 by rw [h0]; exact Int32.le_refl _), kp_wi_ne (by omega), h.2.2.2.1 h0, kr77_6, kl81, if_pos (kf_ixN (by omega) (by decide)), nI_clamp (by omega), kp_wi_row (by decide), (h.2.1 s.1 h.1.1).2.1]
    · rw [if_pos h0]
      exact ⟨⟨h.1.1, hk.2⟩, fun j hj => (h.2.1 j hj).fr c1 (fun a b _ _ q => by omega) (fun b q => q), (kp_wi_ne (by omega)).trans (kp_wi_same _ _ _ _), fun q => absurd q (by show ¬ k = 0; omega), fun _ => kp_wi_same _ _ _ _⟩
  · rw [if_neg (nI_nle (by omega) (by omega)), if_neg h0]
    exact ⟨σ, rfl, h, kx_fr.rf⟩
theorem kM_gon {X : kx_X} {s : kx_S} {σ : kf_St} (h : kx_RM X s σ) (h0 : s.2 = 0) (hK : kx_K X s.1 ≠ 0 ∧ kx_K X s.1 ≠ 1) : ∃ τ, f_X12_goesOn 77 σ = some τ ∧ kx_RM X (kx_tk X (kx_K X s.1) s) τ ∧ kx_fr kx_mT kx_n0 σ τ := by
  have t4 := h.1.1.1
  have g' := kx_tk_g (d := kx_K X s.1) hK h.1
  unfold f_X12_goesOn
  simp only [kz_lt]
  rw [h.2.2.2.1 h0]
  by_cases c : s.1 < 400
  · rw [if_neg (show ¬ nI s.1 = 400 from fun q => absurd ((nI_eq (b := 400) (by omega) (by decide)).mp q) (by omega)), nI_1]
    have cc : kx_fr kx_mT kx_n0 σ (kf_wi σ 77 11 (nI (s.1 + 1))) := kx_fr.rf.wi (by unfold kx_mT; omega)
    refine ⟨_, rfl, ?_, cc⟩
    rw [kx_tk_1 h0 rfl c] at g' ⊢
    exact ⟨g', fun j hj => (h.2.1 j hj).fr cc (fun a b _ _ q => by unfold kx_mT at q; omega) (fun b q => q), (kp_wi_ne (by omega)).trans (h.2.2.1.trans (by rw [h0])), fun _ => kp_wi_same _ _ _ _, fun q => absurd rfl q⟩
  · rw [if_pos (show nI s.1 = 400 by rw [show s.1 = 400 by omega]; rfl)]
    obtain ⟨τ, t1, t2, t3⟩ := kM_fail (k := 2) h (by decide)
    rw [if_pos h0] at t2
    refine ⟨τ, ?_, ?_, t3.mono (fun a b q => by unfold kx_mT; omega) (fun _ _ q => q)⟩
    · rw [show (2 : Int32) = nI 2 from rfl, t1, Option.bind_some]
    · rw [kx_tk_2 h0 rfl c]; exact t2
theorem kM_gonF {X : kx_X} {s : kx_S} {σ : kf_St} (h : kx_RM X s σ) (h0 : s.2 ≠ 0) : ∃ τ, f_X12_goesOn 77 σ = some τ ∧ kx_RM X s τ ∧ kx_fr kx_mT kx_n0 σ τ := by
  unfold f_X12_goesOn
  simp only [kz_lt]
  by_cases c : σ.1 77 11 = 400
  · rw [if_pos c]
    obtain ⟨τ, t1, t2, t3⟩ := kM_fail (k := 2) h (by decide)
    rw [if_neg h0] at t2
    refine ⟨τ, ?_, t2, t3.mono (fun a b q => by unfold kx_mT; omega) (fun _ _ q => q)⟩
    rw [show (2 : Int32) = nI 2 from rfl, t1, Option.bind_some]
  · rw [if_neg c]
    have cc : kx_fr kx_mT kx_n0 σ (kf_wi σ 77 11 (σ.1 77 11 + 1)) := kx_fr.rf.wi (by unfold kx_mT; omega)
    exact ⟨_, rfl, ⟨h.1, fun j hj => (h.2.1 j hj).fr cc (fun a b _ _ q => by unfold kx_mT at q; omega) (fun b q => q), (kp_wi_ne (by omega)).trans h.2.2.1, fun q => absurd q h0, fun q => (kp_wi_ne (by omega)).trans (h.2.2.2.2 q)⟩, cc⟩
theorem kM_must {X : kx_X} {s : kx_S} {σ : kf_St} {k : Nat} (h : kx_RM X s σ) (hk : kx_vb k = true) (hk2 : k < 277) (hk3 : k ≠ 0 ∧ k ≠ 1) : ∃ τ, f_X12_must 77 (nI (kx_km k)) σ = some τ ∧ kx_RM X (kx_tk X k s) τ ∧ kx_fr kx_mT kx_n0 σ τ := by
  unfold f_X12_must
  by_cases h0 : s.2 = 0
  · by_cases c : kx_K X s.1 = k
    · rw [kM_isT h h0 c, Option.bind_some]
      dsimp only
      rw [if_neg (by decide)]
      obtain ⟨τ, t1, t2, t3⟩ := kM_gon h h0 (by rw [c]; exact hk3)
      rw [c] at t2
      refine ⟨τ, ?_, t2, t3⟩
      rw [t1, Option.bind_some]
    · rw [kM_isF h hk hk2 (fun _ => c), Option.bind_some]
      dsimp only
      rw [if_pos rfl]
      obtain ⟨τ, t1, t2, t3⟩ := kM_fail (k := 1) h (by decide)
      rw [if_pos h0] at t2
      refine ⟨τ, ?_, ?_, t3.mono (fun a b q => by unfold kx_mT; omega) (fun _ _ q => q)⟩
      · rw [show (1 : Int32) = nI 1 from rfl, t1, Option.bind_some]
      · rw [kx_tk_3 h0 c]; exact t2
  · rw [kM_isF h hk hk2 (fun q => absurd q h0), Option.bind_some]
    dsimp only
    rw [if_pos rfl]
    obtain ⟨τ, t1, t2, t3⟩ := kM_fail (k := 1) h (by decide)
    rw [if_neg h0] at t2
    refine ⟨τ, ?_, ?_, t3.mono (fun a b q => by unfold kx_mT; omega) (fun _ _ q => q)⟩
    · rw [show (1 : Int32) = nI 1 from rfl, t1, Option.bind_some]
    · rw [kx_tk_f h0]; exact t2
/-! what comes out, what waits -/
def kx_wk (f : Nat → Int32) : List Nat → Prop
  | [] => True
  | x :: r => f r.length = nI x ∧ kx_wk f r
theorem kx_wk_c {f g : Nat → Int32} : ∀ (W : List Nat), (∀ i, i < W.length → g i = f i) → kx_wk f W → kx_wk g W
  | [], _, _ => True.intro
  | x :: r, h, q => ⟨(h r.length (Nat.lt_succ_self _)).trans q.1, kx_wk_c r (fun i hi => h i (Nat.lt_succ_of_lt hi)) q.2⟩
def kx_CM (sd : Nat) (cs : List kx_o) (σ : kf_St) : Prop := σ.1 77 43 = nI (420 * sd + cs.length) ∧ kx_ma (σ.1 106) (σ.1 107) (420 * sd) cs
def kx_WS (sd : Nat) (W : List Nat) (cs : List kx_o) (σ : kf_St) : Prop := σ.1 77 47 = nI W.length ∧ kx_wk (σ.1 108) W ∧ kx_CM sd cs σ
def kx_oP (sd c0 a b : Nat) : Prop := (a = 77 ∧ (b = 43 ∨ b = 47)) ∨ ((a = 106 ∨ a = 107) ∧ c0 ≤ b ∧ b < 420 * sd + 420)
theorem kM_emit {sd c0 k v : Nat} {cs : List kx_o} {σ : kf_St} (hs : sd < 2) (h : kx_CM sd cs σ) (hc : cs.length < 420) (h0 : c0 ≤ 420 * sd + cs.length) : ∃ τ, f_X12_emit 77 (nI k) (nI v) σ = some τ ∧ kx_CM sd (cs ++ [(k, v)]) τ ∧ kx_fr (fun a b => (a = 77 ∧ b = 43) ∨ ((a = 106 ∨ a = 107) ∧ c0 ≤ b ∧ b < 420 * sd + 420)) kx_n0 σ τ := by
  obtain ⟨h1, h2⟩ := h
  unfold f_X12_emit
  simp only [kz_lt]
  rw [h1, kr77_44, kl106, if_pos (kf_ixN (by omega) (by decide)), nI_clamp (by omega), kp_wi_row (by decide), h1, kr77_45, kl107, if_pos (kf_ixN (by omega) (by decide)), nI_clamp (by omega), kp_wi_row (by decide), kp_wi_row (by decide), h1, nI_1]
  refine ⟨_, rfl, ⟨?_, ?_⟩, ((kx_fr.rf.wi (Or.inr ⟨Or.inl rfl, h0, by omega⟩)).wi (Or.inr ⟨Or.inr rfl, h0, by omega⟩)).wi (Or.inl ⟨rfl, rfl⟩)⟩
  · rw [kp_wi_same, List.length_append]; rfl
  · refine (kx_ma_app _ _ cs).mpr ⟨kx_ma_c cs (fun i _ hi => ⟨?_, ?_⟩) h2, ?_, ?_, True.intro⟩
    · rw [kp_wi_row (by decide), kp_wi_row (by decide), kp_wi_ne (by omega)]
    · rw [kp_wi_row (by decide), kp_wi_ne (by omega), kp_wi_row (by decide)]
    · rw [kp_wi_row (by decide), kp_wi_row (by decide), kp_wi_same]
    · rw [kp_wi_row (by decide), kp_wi_same]
def kx_oc (w : Nat) : Nat := if w = 8 then 2 else if w = 9 then 3 else if w = 10 then 4 else 5
def kx_fl (W : List Nat) : List kx_o := W.map (fun w => (kx_oc w, 0))
/-- what a strong or a weak sign drives out -/
def kx_dr (g : Bool) (w : Nat) : Prop := (w = 10 ∨ w = 15) ∨ (g = false ∧ (w = 8 ∨ w = 9))
def kx_st (g : Bool) (W : List Nat) : Prop := match W with
  | [] => True
  | x :: _ => x = 6 ∨ (g = true ∧ (x = 8 ∨ x = 9))
theorem kM_out0 {sd c0 : Nat} {g : Bool} (hs : sd < 2) : ∀ (P : List Nat) {W : List Nat} {cs : List kx_o} {σ : kf_St} {f : Nat}, (∀ w, w ∈ P → kx_dr g w) → kx_st g W → kx_WS sd (P ++ W) cs σ → (P ++ W).length ≤ 64 → cs.length + (P ++ W).length ≤ 420 → c0 ≤ 420 * sd + cs.length → P.length < f → ∃ τ, f_X12_comesOut_0 f 77 (kx_b1 g) σ = some τ ∧ kx_WS sd W (cs ++ kx_fl P) τ ∧ kx_fr (kx_oP sd c0) kx_n0 σ τ
  | [], W, cs, σ, f, hP, hW, h, hl, hc, h0, hf => by
    obtain ⟨f, rfl⟩ := kp_fuel (show 0 < f from hf)
    have h : kx_WS sd W cs σ := h
    have hl : W.length ≤ 64 := hl
    refine ⟨σ, ?_, by rw [show kx_fl [] = [] from rfl, List.append_nil]; exact h, kx_fr.rf⟩
    show f_X12_comesOut_0_s _ 77 _ σ = _
    unfold f_X12_comesOut_0_s
    simp only [kz_lt]
    rw [h.1]
    match W, hW, h, hl with
    | [], _, _, _ => rw [if_pos (show nI ([] : List Nat).length ≤ 0 from by decide)]
    | x :: r, hW, h, hl =>
      have hl : r.length + 1 ≤ 64 := hl
      have hx : σ.1 108 r.length = nI x := h.2.1.1
      rw [show (x :: r).length = r.length + 1 from rfl, if_neg (nI_nle (by omega) (by omega)), kx_s1, kr77_46, kl108, if_pos (kf_ixN (by omega) (by decide)), nI_clamp (by omega), hx]
      rcases hW with q | ⟨q1, q2⟩
      · rw [if_pos (show nI x = 6 by rw [q]; rfl)]
      · rw [if_neg (show ¬ nI x = 6 from fun z => absurd ((nI_eq (b := 6) (by omega) (by decide)).mp z) (by omega)), q1, if_neg (show ¬ kx_b1 true = 0 by decide)]
        rcases q2 with q | q
        · rw [if_pos (show nI x = 8 by rw [q]; rfl)]
        · rw [if_neg (show ¬ nI x = 8 by rw [q]; decide), if_pos (show nI x = 9 by rw [q]; rfl)]
  | w :: P, W, cs, σ, f, hP, hW, h, hl, hc, h0, hf => by
    obtain ⟨f, rfl⟩ := kp_fuel (show 0 < f by omega)
    have hw := hP w (List.mem_cons_self ..)
    have w16 : w < 16 := by rcases hw with q | q <;> omega
    rw [List.cons_append] at h hl hc
    have hl : (P ++ W).length + 1 ≤ 64 := hl
    have hc : cs.length + ((P ++ W).length + 1) ≤ 420 := hc
    have hx : σ.1 108 (P ++ W).length = nI w := h.2.1.1
    have h1 : σ.1 77 47 = nI ((P ++ W).length + 1) := h.1
    have c1 : kx_fr (kx_oP sd c0) kx_n0 σ (kf_wi σ 77 47 (nI (P ++ W).length)) := kx_fr.rf.wi (by unfold kx_oP; omega)
    have cm : kx_CM sd cs (kf_wi σ 77 47 (nI (P ++ W).length)) := by
      refine ⟨(kp_wi_ne (by omega)).trans h.2.2.1, kx_ma_c cs (fun i _ _ => ⟨kp_wi_row (by decide) i, kp_wi_row (by decide) i⟩) h.2.2.2⟩
    obtain ⟨τ1, t1, t2, t3⟩ := kM_emit (k := kx_oc w) (v := 0) (c0 := c0) hs cm (by omega) h0
    have ws : kx_WS sd (P ++ W) (cs ++ [(kx_oc w, 0)]) τ1 := ⟨(t3.1 77 47 (by omega)).trans (kp_wi_same _ _ _ _), by
      rw [t3.row (fun b => by omega), kf_wi_o (by decide)]
      exact h.2.1.2, t2⟩
    obtain ⟨τ2, u1, u2, u3⟩ := kM_out0 (c0 := c0) hs P (f := f) (fun x hx => hP x (List.mem_cons_of_mem _ hx)) hW ws (by omega) (by rw [List.length_append]; show cs.length + 1 + _ ≤ 420; omega) (by rw [List.length_append]; show _ ≤ _ + (_ + 1); omega) (by have : P.length + 1 < f + 1 := hf; omega)
    refine ⟨τ2, ?_, ?_, (c1.tr (t3.mono (fun a b q => by unfold kx_oP; omega) (fun _ _ q => q))).tr u3⟩
    · show f_X12_comesOut_0_s _ 77 _ σ = _
      unfold f_X12_comesOut_0_s
      have run : f_X12_comesOut_42 (f_X12_comesOut_0 f) 77 (kx_b1 g) (nI w) σ = some τ2 := by
        unfold f_X12_comesOut_42 f_X12_comesOut_84
        simp only [kz_lt]
        rw [h1, kx_s1]
        unfold kx_oc at t1
        by_cases q8 : w = 8
        · rw [if_pos (show nI w = 8 by rw [q8]; rfl)]
          rw [if_pos q8] at t1
          rw [show f_X12_emit 77 2 0 _ = some τ1 from t1, Option.bind_some]
          exact u1
        rw [if_neg (show ¬ nI w = 8 from fun z => q8 ((nI_eq (b := 8) (by omega) (by decide)).mp z))]
        rw [if_neg q8] at t1
        by_cases q9 : w = 9
        · rw [if_pos (show nI w = 9 by rw [q9]; rfl)]
          rw [if_pos q9] at t1
          rw [show f_X12_emit 77 3 0 _ = some τ1 from t1, Option.bind_some]
          exact u1
        rw [if_neg (show ¬ nI w = 9 from fun z => q9 ((nI_eq (b := 9) (by omega) (by decide)).mp z))]
        rw [if_neg q9] at t1
        by_cases q10 : w = 10
        · rw [if_pos (show nI w = 10 by rw [q10]; rfl)]
          rw [if_pos q10] at t1
          rw [show f_X12_emit 77 4 0 _ = some τ1 from t1, Option.bind_some]
          exact u1
        rw [if_neg (show ¬ nI w = 10 from fun z => q10 ((nI_eq (b := 10) (by omega) (by decide)).mp z))]
        rw [if_neg q10] at t1
        rw [show f_X12_emit 77 5 0 _ = some τ1 from t1, Option.bind_some]
        exact u1
      simp only [kz_lt]
      rw [h1, if_neg (nI_nle (by omega) (by omega)), kx_s1, kr77_46, kl108, if_pos (kf_ixN (by omega) (by decide)), nI_clamp (by omega), hx, if_neg (show ¬ nI w = 6 from fun z => absurd ((nI_eq (b := 6) (by omega) (by decide)).mp z) (by rcases hw with q | q <;> omega)), run]
      by_cases qg : kx_b1 g = 0
      · rw [if_pos qg]
      · rw [if_neg qg]
        have gt : g = true := by
          cases g
          · exact absurd rfl qg
          · rfl
        have w15 : w = 10 ∨ w = 15 := by
          rcases hw with q | q
          · exact q
          · exact absurd q.1 (by rw [gt]; decide)
        rw [if_neg (show ¬ nI w = 8 from fun z => absurd ((nI_eq (b := 8) (by omega) (by decide)).mp z) (by omega)), if_neg (show ¬ nI w = 9 from fun z => absurd ((nI_eq (b := 9) (by omega) (by decide)).mp z) (by omega))]
    · rw [show kx_fl (w :: P) = (kx_oc w, 0) :: kx_fl P from rfl, show cs ++ ((kx_oc w, 0) :: kx_fl P) = cs ++ [(kx_oc w, 0)] ++ kx_fl P by rw [List.append_assoc]; rfl]
      exact u2
theorem kM_out {sd c0 : Nat} {g : Bool} (hs : sd < 2) {P W : List Nat} {cs : List kx_o} {σ : kf_St} (hP : ∀ w, w ∈ P → kx_dr g w) (hW : kx_st g W) (h : kx_WS sd (P ++ W) cs σ) (hl : (P ++ W).length ≤ 64) (hc : cs.length + (P ++ W).length ≤ 420) (h0 : c0 ≤ 420 * sd + cs.length) : ∃ τ, f_X12_comesOut 77 (kx_b1 g) σ = some τ ∧ kx_WS sd W (cs ++ kx_fl P) τ ∧ kx_fr (kx_oP sd c0) kx_n0 σ τ := by
  unfold f_X12_comesOut
  refine kM_out0 hs P hP hW h hl hc h0 ?_
  rw [List.length_append] at hl
  have : 100 ≤ kf_F := by decide
  omega
