/-! ===== pure: the reference's row ===== -/
def kp_fD (ρ : Nat → Int32) (d : Nat) : kp_D := (kd_cut (fun p => ρ (4 * d + p)), ρ (24 + d), ρ (30 + d), ρ (36 + d), ρ (42 + d), ρ (48 + d))
theorem kp_fD_mk {ρ : Nat → Int32} {d : Nat} {f : Nat → Int32} {a b c m e : Int32} (h0 : ∀ q, q < 4 → ρ (4 * d + q) = f q) (h1 : ρ (24 + d) = a) (h2 : ρ (30 + d) = b) (h3 : ρ (36 + d) = c) (h4 : ρ (42 + d) = m) (h5 : ρ (48 + d) = e) : kp_fD ρ d = (kd_cut f, a, b, c, m, e) := by
  unfold kp_fD
  rw [kd_cut_eq h0, h1, h2, h3, h4, h5]
theorem kp_fD_eq {ρ ρ' : Nat → Int32} {d : Nat} (h0 : ∀ q, q < 4 → ρ' (4 * d + q) = ρ (4 * d + q)) (h1 : ρ' (24 + d) = ρ (24 + d)) (h2 : ρ' (30 + d) = ρ (30 + d)) (h3 : ρ' (36 + d) = ρ (36 + d)) (h4 : ρ' (42 + d) = ρ (42 + d)) (h5 : ρ' (48 + d) = ρ (48 + d)) : kp_fD ρ' d = kp_fD ρ d := kp_fD_mk h0 h1 h2 h3 h4 h5
theorem kp_fD_f {ρ : Nat → Int32} {d : Nat} {D : kp_D} (h : kp_fD ρ d = D) : (∀ q, q < 4 → ρ (4 * d + q) = D.1 q) ∧ ρ (24 + d) = D.2.1 ∧ ρ (30 + d) = D.2.2.1 ∧ ρ (36 + d) = D.2.2.2.1 ∧ ρ (42 + d) = D.2.2.2.2.1 ∧ ρ (48 + d) = D.2.2.2.2.2 := by
  subst h
  exact ⟨fun q hq => (kd_cut_at (f := fun p => ρ (4 * d + p)) hq).symm, rfl, rfl, rfl, rfl, rfl⟩
theorem kp_fD_cut {ρ : Nat → Int32} {d : Nat} {D : kp_D} (h : kp_fD ρ d = D) : kd_cut D.1 = D.1 := by
  subst h
  exact kd_cut_cut _
/-- all doors, lifts by callers, the rounds that are kept, the day -/
abbrev kp_S : Type := (Nat → kp_D) × (Nat → Int32) × Nat × Nat
def kp_fS (ρ : Nat → Int32) (S : kp_S) : Prop := (∀ d, d < 6 → kp_fD ρ d = S.1 d) ∧ (∀ c, c < 5 → ρ (64 + c) = S.2.1 c) ∧ (∀ r, r < 10 → ρ (54 + r) = nI (kp_bt S.2.2.1 r)) ∧ ρ 69 = nI S.2.2.2
theorem kp_fS.ch {ρ ρ' : Nat → Int32} {S : kp_S} (h : kp_fS ρ S) (e : ∀ j, j < 70 → ρ' j = ρ j) : kp_fS ρ' S := by
  obtain ⟨h1, h2, h3, h4⟩ := h
  refine ⟨fun d hd => ?_, fun c hc => by rw [e _ (by omega)]; exact h2 c hc, fun r hr => by rw [e _ (by omega)]; exact h3 r hr, by rw [e _ (by omega)]; exact h4⟩
  rw [← h1 d hd]
  exact kp_fD_eq (fun q hq => e _ (by omega)) (e _ (by omega)) (e _ (by omega)) (e _ (by omega)) (e _ (by omega)) (e _ (by omega))
/-! frames -/
theorem kp_chM.rf {S J : Nat → Prop} {σ : kf_St} : kp_chM S J σ σ := ⟨fun _ _ _ => rfl, fun _ _ => rfl, rfl⟩
theorem kp_chM.tr {S J : Nat → Prop} {a b c : kf_St} (h1 : kp_chM S J a b) (h2 : kp_chM S J b c) : kp_chM S J a c := ⟨fun k hk hk2 => (h2.1 k hk hk2).trans (h1.1 k hk hk2), fun j hj => (h2.2.1 j hj).trans (h1.2.1 j hj), h2.2.2.trans h1.2.2⟩
theorem kp_chM.mono {S T J H : Nat → Prop} {σ σ' : kf_St} (h : kp_chM S J σ σ') (hST : ∀ k, S k → T k) (hJH : ∀ j, J j → H j) : kp_chM T H σ σ' := ⟨fun k hk hk2 => h.1 k (fun e => hk (hST k e)) hk2, fun j hj => h.2.1 j (fun e => hj (hJH j e)), h.2.2⟩
theorem kp_chM.wi {S J : Nat → Prop} {σ σ' : kf_St} (h : kp_chM S J σ σ') {k j : Nat} {v : Int32} (hk : S k) (hk2 : k ≠ 77) : kp_chM S J σ (kf_wi σ' k j v) := ⟨fun a ha ha2 => (kf_wi_o (a := a) (k := k) (fun e => ha (by rw [e]; exact hk))).trans (h.1 a ha ha2), fun i hi => (kp_wi_row (fun e => hk2 e.symm) i).trans (h.2.1 i hi), h.2.2⟩
theorem kp_chM.ws {S J : Nat → Prop} {σ σ' : kf_St} (h : kp_chM S J σ σ') {j : Nat} {v : Int32} (hj : J j) : kp_chM S J σ (kf_wi σ' 77 j v) := ⟨fun a ha ha2 => (kf_wi_o (a := a) (k := 77) ha2).trans (h.1 a ha ha2), fun i hi => (kp_wi_col (fun e => hi (by rw [e]; exact hj)) 77).trans (h.2.1 i hi), h.2.2⟩
theorem kp_LM.ch {k : Nat} {pl : Int32} {L : kp_Lw} {lv : Nat} {σ τ : kf_St} (h : kp_LM k pl L lv σ) (e : ∀ r, 99 ≤ r → r ≤ 107 → τ.1 r = σ.1 r) (e2 : τ.1 77 18 = σ.1 77 18) : kp_LM k pl L lv τ := fun σ' a b => h σ' ((kp_ag.of e).tr a) (b.trans e2)
theorem kp_MT.ch {T : kp_T} {lv : Nat} {σ τ : kf_St} (h : kp_MT T lv σ) (e : ∀ r, 87 ≤ r → r ≤ 107 → τ.1 r = σ.1 r) (e2 : τ.1 77 18 = σ.1 77 18) : kp_MT T lv τ := by
  obtain ⟨h0, h1, h2, h3, h4, h5, h6, h7, h8, h9⟩ := h
  refine ⟨h0, e2.trans h1, ?_, ?_, ?_, ?_, ?_, h7.ch (fun r a b => e r (by omega) b) e2, h8.ch (fun r a b => e r (by omega) b) e2, h9.ch (fun r a b => e r (by omega) b) e2⟩
  · rw [e 87 (by decide) (by decide), e 89 (by decide) (by decide), e 91 (by decide) (by decide)]; exact h2
  · rw [e 96 (by decide) (by decide), e 97 (by decide) (by decide), e 98 (by decide) (by decide)]; exact h3
  · rw [e 88 (by decide) (by decide)]; exact h4
  · rw [e 90 (by decide) (by decide)]; exact h5
  · rw [e 92 (by decide) (by decide), e 93 (by decide) (by decide), e 94 (by decide) (by decide), e 95 (by decide) (by decide)]; exact h6
theorem kp_MT.chM {T : kp_T} {lv : Nat} {σ τ : kf_St} {S J : Nat → Prop} (h : kp_MT T lv σ) (c : kp_chM S J σ τ) (hS : ∀ r, S r → 107 < r) (hJ : ¬ J 18) : kp_MT T lv τ := h.ch (fun r _ b => c.1 r (fun e => by have := hS r e; omega) (by omega)) (c.2.1 18 hJ)
/-! small ones -/
theorem kp_withinM (v a : Int32) (σ : kf_St) (ha : 0 ≤ a) : f_X12_within v 0 a σ = some (kp_wn v 0 a, σ) := by
  unfold f_X12_within kp_wn
  by_cases h1 : 0 ≤ v
  · rw [if_pos h1, if_neg (fun e => Int32.not_le.mpr e h1)]
    by_cases h2 : v ≤ a
    · rw [if_pos h2, if_neg (fun e => Int32.not_le.mpr e h2)]
    · rw [if_neg h2, if_pos (Int32.not_le.mp h2)]
  · rw [if_neg h1, if_pos (Int32.not_le.mp h1)]
theorem kp_towM (v t b : Int32) (σ : kf_St) : f_X12_towardsBy v t b σ = some (kp_tw v t b, σ) := by
  unfold f_X12_towardsBy kp_tw
  by_cases h : t ≤ v
  · rw [if_pos h, if_pos h]
  · rw [if_neg h, if_neg h]
theorem kn69x : (69 : Int32).toNatClampNeg = 69 := of_eq_true (eq_self _)
def kp_lkM (σ : kf_St) (d p : Nat) : kf_St := kf_wi (kf_wi (kf_wi (kf_wi (kf_wi (kf_wi σ 109 1 (nI p)) 109 2 (σ.1 112 (24 + d))) 109 3 (σ.1 112 (30 + d))) 109 4 (σ.1 112 69)) 109 5 (σ.1 112 (4 * d + p))) 109 8 (σ.1 112 (36 + d))
theorem kp_looksM {σ : kf_St} {d p : Nat} (hd : d < 6) (hp : p < 4) : f_X12_looks 77 (nI d) (nI p) σ = some (kp_lkM σ d p) := by
  unfold f_X12_looks
  simp (disch := omega) only [↓reduceIte, kz_lt, Option.bind_some, kz_ix, kz_leT, kz_leF, kz_ltT, kz_ltF, kz_lt0, kz_0le, kz_0ltT, kz_le0F, kz_eq0F, kz_10, kz_00, kz_11, kz_01, nI_clamp, nI_1, nI_add, pk_mul, kn2, kn3, kn4, kn5, kn6, kn7, kn8, kn9, kn10, kn16, kn20, kn24, kn30, kn32, kn36, kn40, kn41, kn42, kn48, kn54, kn60, kn61, kn64, kn69, kn70, kn99, kn100, kc0, kc1, kc2, kc3, kc4, kc5, kc6, kc7, kc8, kc9, kc10, kx0, kx1, kx2, kx3, kx4, kx5, kx6, kx7, kx8, kr77_1, kr77_3, kr77_5, kr77_6, kr77_7, kr77_8, kr77_9, kr77_21, kr77_22, kr77_23, kr77_24, kr77_25, kr77_26, kr77_27, kr77_28, kr77_29, kr77_30, kr77_31, kr77_32, kr77_33, kr77_34, kr77_35, kr77_36, kr77_38, kr77_39, kr77_40, kr77_41, kr77_42, kr77_44, kr77_45, kr77_46, kr77_48, kr77_49, kr77_51, kr77_52, kr77_55, kr77_57, kr77_58, kr77_59, kr77_61, kr77_62, kr77_63, kr77_64, kr77_65, kl78, kl79, kl80, kl81, kl82, kl83, kl84, kl85, kl86, kl87, kl88, kl89, kl90, kl91, kl92, kl93, kl94, kl95, kl96, kl97, kl98, kl99, kl100, kl101, kl102, kl103, kl104, kl105, kl106, kl107, kl108, kl109, kl110, kl111, kl112, kl113, kl114, kl115, kl116, kl117, kl118, kl119, kl120, kl121, kz_row]
  rfl
theorem kp_lkM_ch (σ : kf_St) (d p : Nat) : kp_chM (fun r => r = 109) (fun _ => False) σ (kp_lkM σ d p) := by
  have h0 : kp_chM (fun r => r = 109) (fun _ => False) σ σ := kp_chM.rf
  exact kp_chM.wi (kp_chM.wi (kp_chM.wi (kp_chM.wi (kp_chM.wi (kp_chM.wi h0 rfl (by decide)) rfl (by decide)) rfl (by decide)) rfl (by decide)) rfl (by decide)) rfl (by decide)
theorem kp_vaM (σ : kf_St) (d p : Nat) (ap un w : Int32) : ∀ i, i < 9 → (kf_wi (kf_wi (kf_wi (kp_lkM σ d p) 109 0 ap) 109 6 un) 109 7 w).1 109 i = kp_va ap (nI p) (σ.1 112 (24 + d)) (σ.1 112 (30 + d)) (σ.1 112 69) (σ.1 112 (4 * d + p)) un w (σ.1 112 (36 + d)) i := by
  intro i hi
  rcases (show i = 0 ∨ i = 1 ∨ i = 2 ∨ i = 3 ∨ i = 4 ∨ i = 5 ∨ i = 6 ∨ i = 7 ∨ i = 8 by omega) with rfl | rfl | rfl | rfl | rfl | rfl | rfl | rfl | rfl <;> rfl
theorem kp_vaMp (σ : kf_St) (d : Nat) (un w : Int32) : ∀ i, i < 9 → (kf_wi (kf_wi (kf_wi (kf_wi (kp_lkM σ d 0) 109 0 0) 109 5 0) 109 6 un) 109 7 w).1 109 i = kp_va 0 0 (σ.1 112 (24 + d)) (σ.1 112 (30 + d)) (σ.1 112 69) 0 un w (σ.1 112 (36 + d)) i := by
  intro i hi
  rcases (show i = 0 ∨ i = 1 ∨ i = 2 ∨ i = 3 ∨ i = 4 ∨ i = 5 ∨ i = 6 ∨ i = 7 ∨ i = 8 by omega) with rfl | rfl | rfl | rfl | rfl | rfl | rfl | rfl | rfl <;> rfl
theorem kp_of0 {x y : Int32} (hx : kp_sm x) (hy : kp_sm y) : 0 ≤ kp_of x y := kp_sm0 (kp_of_sm hx hy)
theorem kp_givesOf {T : kp_T} {lv : Nat} {σ : kf_St} {d c p : Nat} {D : kp_D} {dy : Int32} (hT : kp_Tok T) (h : kp_MT T lv σ) (hd : d < 6) (hc : c < kt_nc T) (hp : p < 4) (e : kp_fD (σ.1 112) d = D) (ey : σ.1 112 69 = dy) (hs : ∀ q, q < 4 → kp_sm (D.1 q)) : ∃ σ', f_X12_givesOf 77 (nI d) (nI c) (nI p) σ = some (kp_st (kt_lg T) D (kt_lo T c) c p dy, σ') ∧ kp_chM (fun r => r = 109 ∨ r = 110) (fun j => j = 50) σ σ' := by
  obtain ⟨f0, f1, f2, f3, -, -⟩ := kp_fD_f e
  have c1 := kp_lkM_ch σ d p
  have h1 := h.chM c1 (fun r e => by omega) (fun x => x)
  have e112 : (kp_lkM σ d p).1 112 = σ.1 112 := c1.1 112 (by decide) (by decide)
  have c2 : kp_chM (fun r => r = 109) (fun _ => False) σ (kf_wi (kp_lkM σ d p) 109 0 (kp_of (D.1 p) (kt_lo T c p))) := kp_chM.wi c1 rfl (by decide)
  have h2 := h.chM c2 (fun r e => by omega) (fun x => x)
  have eU : kp_un (fun q => (kf_wi (kp_lkM σ d p) 109 0 (kp_of (D.1 p) (kt_lo T c p))).1 112 (4 * d + q)) (kt_lo T c) = kp_un D.1 (kt_lo T c) := kp_un_congr (fun q hq => by rw [kp_wi_row (by decide), e112, f0 q hq]) (fun _ _ => rfl)
  have c3 : kp_chM (fun r => r = 109) (fun _ => False) σ (kf_wi (kf_wi (kf_wi (kp_lkM σ d p) 109 0 (kp_of (D.1 p) (kt_lo T c p))) 109 6 (kp_un D.1 (kt_lo T c))) 109 7 (nI c)) := kp_chM.wi (kp_chM.wi c2 rfl (by decide)) rfl (by decide)
  have h3 := h.chM c3 (fun r e => by omega) (fun x => x)
  obtain ⟨σ', g1, g2⟩ := h3.2.2.2.2.2.2.2.1 _ kp_ag.rf rfl
  have g1' : f_X12_lawTells 77 0 1 (kf_wi (kf_wi (kf_wi (kp_lkM σ d p) 109 0 (kp_of (D.1 p) (kt_lo T c p))) 109 6 (kp_un D.1 (kt_lo T c))) 109 7 (nI c)) = _ := g1
  unfold f_X12_givesOf
  simp (disch := omega) only [↓reduceIte, kz_lt, Option.bind_some, kz_ix, kz_leT, kz_leF, kz_ltT, kz_ltF, kz_lt0, kz_0le, kz_0ltT, kz_le0F, kz_eq0F, kz_10, kz_00, kz_11, kz_01, nI_clamp, nI_1, nI_add, pk_mul, kn2, kn3, kn4, kn5, kn6, kn7, kn8, kn9, kn10, kn16, kn20, kn24, kn30, kn32, kn36, kn40, kn41, kn42, kn48, kn54, kn60, kn61, kn64, kn69, kn70, kn99, kn100, kc0, kc1, kc2, kc3, kc4, kc5, kc6, kc7, kc8, kc9, kc10, kx0, kx1, kx2, kx3, kx4, kx5, kx6, kx7, kx8, kr77_1, kr77_3, kr77_5, kr77_6, kr77_7, kr77_8, kr77_9, kr77_21, kr77_22, kr77_23, kr77_24, kr77_25, kr77_26, kr77_27, kr77_28, kr77_29, kr77_30, kr77_31, kr77_32, kr77_33, kr77_34, kr77_35, kr77_36, kr77_38, kr77_39, kr77_40, kr77_41, kr77_42, kr77_44, kr77_45, kr77_46, kr77_48, kr77_49, kr77_51, kr77_52, kr77_55, kr77_57, kr77_58, kr77_59, kr77_61, kr77_62, kr77_63, kr77_64, kr77_65, kl78, kl79, kl80, kl81, kl82, kl83, kl84, kl85, kl86, kl87, kl88, kl89, kl90, kl91, kl92, kl93, kl94, kl95, kl96, kl97, kl98, kl99, kl100, kl101, kl102, kl103, kl104, kl105, kl106, kl107, kl108, kl109, kl110, kl111, kl112, kl113, kl114, kl115, kl116, kl117, kl118, kl119, kl120, kl121, kp_looksM, kp_facePart hT h1 hc hp, kp_off, e112, f0 p hp, kp_unM hT h2 hd hc, eU, g1', kp_withinM _ _ _ (kp_of0 (hs p hp) (hT.2.2.1 c hc p hp))]
  refine ⟨σ', ?_, (c3.mono (fun r h => Or.inl h) (fun j h => h.elim)).tr (g2.mono (fun r h => Or.inr h) (fun j h => h))⟩
  rw [hT.2.2.2.2.2.1 _ _ (kp_vaM σ d p (kp_of (D.1 p) (kt_lo T c p)) (kp_un D.1 (kt_lo T c)) (nI c)), f1, f2, f3, f0 p hp, ey]
  rfl
theorem kp_paysOf {T : kp_T} {lv : Nat} {σ : kf_St} {d c : Nat} {D : kp_D} {dy : Int32} (hT : kp_Tok T) (h : kp_MT T lv σ) (hd : d < 6) (hc : c < kt_nc T) (e : kp_fD (σ.1 112) d = D) (ey : σ.1 112 69 = dy) : ∃ σ', f_X12_paysOf 77 (nI d) (nI c) σ = some (kp_py (kt_lp T) D (kt_lo T c) c dy, σ') ∧ kp_chM (fun r => r = 109 ∨ r = 110) (fun j => j = 50) σ σ' := by
  obtain ⟨f0, f1, f2, f3, -, -⟩ := kp_fD_f e
  have c1 := kp_lkM_ch σ d 0
  have e112 : (kp_lkM σ d 0).1 112 = σ.1 112 := c1.1 112 (by decide) (by decide)
  have c2 : kp_chM (fun r => r = 109) (fun _ => False) σ (kf_wi (kf_wi (kp_lkM σ d 0) 109 0 0) 109 5 0) := kp_chM.wi (kp_chM.wi c1 rfl (by decide)) rfl (by decide)
  have h2 := h.chM c2 (fun r e => by omega) (fun x => x)
  have eU : kp_un (fun q => (kf_wi (kf_wi (kp_lkM σ d 0) 109 0 0) 109 5 0).1 112 (4 * d + q)) (kt_lo T c) = kp_un D.1 (kt_lo T c) := kp_un_congr (fun q hq => by rw [kp_wi_row (by decide), kp_wi_row (by decide), e112, f0 q hq]) (fun _ _ => rfl)
  have c3 : kp_chM (fun r => r = 109) (fun _ => False) σ (kf_wi (kf_wi (kf_wi (kf_wi (kp_lkM σ d 0) 109 0 0) 109 5 0) 109 6 (kp_un D.1 (kt_lo T c))) 109 7 (nI c)) := kp_chM.wi (kp_chM.wi c2 rfl (by decide)) rfl (by decide)
  have h3 := h.chM c3 (fun r e => by omega) (fun x => x)
  obtain ⟨σ', g1, g2⟩ := h3.2.2.2.2.2.2.2.2.2 _ kp_ag.rf rfl
  have g1' : f_X12_lawTells 77 2 1 (kf_wi (kf_wi (kf_wi (kf_wi (kp_lkM σ d 0) 109 0 0) 109 5 0) 109 6 (kp_un D.1 (kt_lo T c))) 109 7 (nI c)) = _ := g1
  have hl : f_X12_looks 77 (nI d) 0 σ = _ := kp_looksM hd (show 0 < 4 by decide)
  unfold f_X12_paysOf
  simp (disch := omega) only [↓reduceIte, kz_lt, Option.bind_some, kz_ix, kz_leT, kz_leF, kz_ltT, kz_ltF, kz_lt0, kz_0le, kz_0ltT, kz_le0F, kz_eq0F, kz_10, kz_00, kz_11, kz_01, nI_clamp, nI_1, nI_add, pk_mul, kc0, kc1, kc2, kc3, kc4, kc5, kc6, kc7, kc8, kc9, kc10, kx0, kx1, kx2, kx3, kx4, kx5, kx6, kx7, kx8, kr77_1, kr77_3, kr77_5, kr77_6, kr77_7, kr77_8, kr77_9, kr77_21, kr77_22, kr77_23, kr77_24, kr77_25, kr77_26, kr77_27, kr77_28, kr77_29, kr77_30, kr77_31, kr77_32, kr77_33, kr77_34, kr77_35, kr77_36, kr77_38, kr77_39, kr77_40, kr77_41, kr77_42, kr77_44, kr77_45, kr77_46, kr77_48, kr77_49, kr77_51, kr77_52, kr77_55, kr77_57, kr77_58, kr77_59, kr77_61, kr77_62, kr77_63, kr77_64, kr77_65, kl78, kl79, kl80, kl81, kl82, kl83, kl84, kl85, kl86, kl87, kl88, kl89, kl90, kl91, kl92, kl93, kl94, kl95, kl96, kl97, kl98, kl99, kl100, kl101, kl102, kl103, kl104, kl105, kl106, kl107, kl108, kl109, kl110, kl111, kl112, kl113, kl114, kl115, kl116, kl117, kl118, kl119, kl120, kl121, hl, kp_unM hT h2 hd hc, eU, g1', kp_withinM _ _ _ (show (0 : Int32) ≤ 99 by decide)]
  refine ⟨σ', ?_, (c3.mono (fun r h => Or.inl h) (fun j h => h.elim)).tr (g2.mono (fun r h => Or.inr h) (fun j h => h))⟩
  rw [hT.2.2.2.2.2.2.2 _ _ (kp_vaMp σ d (kp_un D.1 (kt_lo T c)) (nI c)), f1, f2, f3, ey]
  rfl
