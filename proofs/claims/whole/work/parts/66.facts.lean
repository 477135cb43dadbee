/-! ===== pure: what the calls stand on ===== -/
theorem kp_ind {n : Nat} {P : Nat → Nat → Prop} (h0 : ∀ f, P n (f + 1)) (hs : ∀ i, i < n → ∀ f, P (i + 1) f → P i (f + 1)) : ∀ m i, i + m = n → ∀ f, m < f → P i f
  | 0, i, e, f, hf => by
    obtain ⟨g, rfl⟩ := kp_fuel (show 0 < f by omega)
    obtain rfl : i = n := by omega
    exact h0 g
  | m + 1, i, e, f, hf => by
    obtain ⟨g, rfl⟩ := kp_fuel (show 0 < f by omega)
    exact hs i (by omega) g (kp_ind h0 hs m (i + 1) (by omega) g (by omega))
theorem kp_run {n : Nat} (P : Nat → Nat → Prop) (hn : n < 1000000) (h0 : ∀ f, P n (f + 1)) (hs : ∀ i, i < n → ∀ f, P (i + 1) f → P i (f + 1)) : P 0 kf_F := kp_ind h0 hs n 0 (by omega) kf_F (kf_F_gt hn)
theorem kp_runI {n : Nat} (P : Nat → Nat → Prop) (a : Nat) (ha : a ≤ n) (hn : n < 1000000) (h0 : ∀ f, P n (f + 1)) (hs : ∀ i, a ≤ i → i < n → ∀ f, P (i + 1) f → P i (f + 1)) : P a kf_F := by
  have := kp_run (n := n - a) (fun i f => P (a + i) f) (by omega) (fun f => by show P (a + (n - a)) (f + 1); rw [show a + (n - a) = n by omega]; exact h0 f) (fun i hi f h => hs (a + i) (by omega) (by omega) f h)
  exact this
theorem kp_isF {x : Int32} {n : Nat} (h : ¬ kp_is x n = true) : kp_is x n = false := by
  cases e : kp_is x n
  · rfl
  · exact absurd e h
/-! the class: a knocker that holds D -/
theorem kC_knD {T : kp_T} {σ : kf_St} {k : Nat} {D : kp_D} (hT : kp_Tok T) (h : kp_CT T σ) (hk : kp_isK k) (e : kp_cD σ k = D) (hD : ∀ q, q < 4 → kp_sm (D.1 q)) : f_X10_knownBy 7 (k + 1) σ = some (kp_kn T D.1, σ) := by
  have f := (kp_cD_f e).1
  rw [kp_knC hT h hk.2.1 (fun q hq => by rw [f q hq]; exact hD q hq), kp_kn_congr f]
theorem kC_unD {T : kp_T} {σ : kf_St} {k c : Nat} {D : kp_D} (hT : kp_Tok T) (h : kp_CT T σ) (hk : kp_isK k) (e : kp_cD σ k = D) (hD : ∀ q, q < 4 → kp_sm (D.1 q)) (hc : c < kt_nc T) : f_X10_unlikeTo 7 (k + 1) (nI c) σ = some (kp_un D.1 (kt_lo T c), σ) := by
  have f := (kp_cD_f e).1
  rw [kp_unC hT h hk.2.1 (fun q hq => by rw [f q hq]; exact hD q hq) hc, kp_un_congr f (fun _ _ => rfl)]
theorem kC_fa {A : kp_A} {σ : kf_St} {d : Nat} (h : kp_Cr A σ) (hd : d < kt_nd (ka_T A)) : (∀ q, q < 4 → σ.1 (46 + 2 * d + 1) q = ((ka_S A).1 d).1 q) ∧ σ.1 (46 + 2 * d) 1 = ((ka_S A).1 d).2.1 ∧ σ.1 (46 + 2 * d) 2 = ((ka_S A).1 d).2.2.1 ∧ σ.1 (46 + 2 * d) 3 = ((ka_S A).1 d).2.2.2.1 ∧ σ.1 (46 + 2 * d) 4 = ((ka_S A).1 d).2.2.2.2.1 ∧ σ.1 (46 + 2 * d) 5 = ((ka_S A).1 d).2.2.2.2.2 := kp_cD_f (h.2.1.1 d hd)
theorem kC_kn {A : kp_A} {k : Nat} {σ : kf_St} {d : Nat} (hA : kp_Aok A k) (h : kp_Cr A σ) (hd : d < kt_nd (ka_T A)) : f_X10_knownBy 7 (46 + 2 * d + 1) σ = some (kp_kn (ka_T A) ((ka_S A).1 d).1, σ) := by
  have h6 := hA.1.1.1
  exact kC_knD hA.1 h.1 (kp_isK_d (by omega)) (h.2.1.1 d hd) (hA.2.1.1 d hd).1
theorem kC_un {A : kp_A} {k : Nat} {σ : kf_St} {d c : Nat} (hA : kp_Aok A k) (h : kp_Cr A σ) (hd : d < kt_nd (ka_T A)) (hc : c < kt_nc (ka_T A)) : f_X10_unlikeTo 7 (46 + 2 * d + 1) (nI c) σ = some (kp_un ((ka_S A).1 d).1 (kt_lo (ka_T A) c), σ) := by
  have h6 := hA.1.1.1
  exact kC_unD hA.1 h.1 (kp_isK_d (by omega)) (h.2.1.1 d hd) (hA.2.1.1 d hd).1 hc
theorem kC_of {A : kp_A} {k : Nat} {σ : kf_St} {d : Nat} (hA : kp_Aok A k) (h : kp_Cr A σ) (hd : d < kt_nd (ka_T A)) : f_X7_offFirst 44 (nI d) 7 σ = some (kp_un ((ka_S A).1 d).1 (kt_fi (ka_T A) d), σ) := by
  have h6 := hA.1.1.1
  have hf := (kC_fa h hd).1
  have hd2 := kp_diff σ (a := 46 + 2 * d + 1) (b := 10) (i := 0) (j := d) (by rw [kz_lnK (by omega)]; omega) (by show _ ≤ 24; omega) (by rw [kz_lnK (by omega)]; decide) (by decide) (fun p hp => by rw [Nat.mul_zero, Nat.zero_add, hf p hp]; exact (hA.2.1.1 d hd).1 p hp) (fun p hp => by rw [h.1.2.2.1 d hd p hp]; exact hA.1.2.1 d hd p hp)
  have hd3 : f_X10_difference (46 + 2 * d + 1) 0 10 (nI d) σ = _ := hd2
  unfold f_X7_offFirst
  simp (disch := omega) only [↓reduceIte, kz_lt, Option.bind_some, kz_ix, kz_leT, kz_leF, kz_ltT, kz_ltF, kz_lt0, kz_0le, kz_0ltT, kz_le0F, kz_eq0F, kz_10, kz_00, kz_11, kz_01, nI_clamp, nI_1, nI_add, pk_mul, kc0, kc1, kc2, kc3, kc4, kc5, kc6, kc7, kc8, kc9, kc10, kx0, kx1, kx2, kx3, kx4, kx5, kx6, kx7, kx8, kr0_0, kr0_1, kr0_2, kr0_3, kr0_4, kr0_5, kr0_6, kr0_7, kr0_8, kr0_9, kr1_1, kr1_2, kr1_3, kr1_4, kr1_5, kr7_6, kr7_7, kr7_8, kr7_9, kr7_10, kr7_11, kr7_12, kr7_13, kr7_14, kr7_15, kr7_16, kr16_1, kr16_2, kr19_1, kr19_2, kr22_1, kr22_2, kr25_6, kr25_7, kr25_8, kr25_9, kr25_10, kr25_11, kr25_12, kr25_13, kr25_14, kr25_15, kr25_16, kr34_1, kr34_2, kr37_1, kr37_2, kr40_1, kr40_2, kr43_2, kr43_3, kr44_0, kr44_1, kr44_4, kr46_0, kr48_0, kr50_0, kr52_0, kr54_0, kr56_0, kr60_3, kr60_4, kr63_0, kr63_1, kr63_2, kr66_0, kr66_1, kr66_2, kr66_3, kr66_4, kr67_0, kr70_0, kr70_1, kr70_2, kr72_1, kr72_2, kr72_3, kr72_4, kr72_5, kr72_6, kr72_7, kl2, kl3, kl4, kl5, kl6, kl8, kl9, kl10, kl11, kl12, kl13, kl14, kl15, kl17, kl18, kl20, kl21, kl23, kl24, kl26, kl27, kl28, kl29, kl30, kl31, kl32, kl33, kl35, kl36, kl38, kl39, kl41, kl42, kl45, kl47, kl49, kl51, kl53, kl55, kl57, kl58, kl59, kl61, kl62, kl64, kl65, kl68, kl69, kl71, kl73, kl74, kl75, kl76, kz_rf45, kz_rfK, hd3]
  refine congrArg some (Prod.ext ?_ rfl)
  refine kp_un_congr (fun p hp => ?_) (fun p hp => h.1.2.2.1 d hd p hp)
  show σ.1 (46 + 2 * d + 1) (4 * 0 + p) = _
  rw [Nat.mul_zero, Nat.zero_add, hf p hp]
theorem kC_door {A : kp_A} {k : Nat} {σ : kf_St} {d : Nat} (hA : kp_Aok A k) (h : kp_Cr A σ) (hd : d < kt_nd (ka_T A)) : f_X10_hasDoor 7 (nI d) σ = some (1, σ) := by
  have h6 := hA.1.1.1
  rw [kp_hasDoor hA.1 h.1, if_pos (kp_isN hd (by omega))]
theorem kC_doorF {A : kp_A} {k : Nat} {σ : kf_St} {x : Int32} (hA : kp_Aok A k) (h : kp_Cr A σ) (hx : ¬ kp_is x (kt_nd (ka_T A)) = true) : f_X10_hasDoor 7 x σ = some (0, σ) := by
  rw [kp_hasDoor hA.1 h.1, if_neg hx]
theorem kC_call {A : kp_A} {k : Nat} {σ : kf_St} {c : Nat} (hA : kp_Aok A k) (h : kp_Cr A σ) (hc : c < kt_nc (ka_T A)) : f_X10_hasCaller 7 (nI c) σ = some (1, σ) := by
  have h6 := hA.1.1.2.1
  rw [kp_hasCaller hA.1 h.1, if_pos (kp_isN hc (by omega))]
theorem kC_callF {A : kp_A} {k : Nat} {σ : kf_St} {x : Int32} (hA : kp_Aok A k) (h : kp_Cr A σ) (hx : ¬ kp_is x (kt_nc (ka_T A)) = true) : f_X10_hasCaller 7 x σ = some (0, σ) := by
  rw [kp_hasCaller hA.1 h.1, if_neg hx]
theorem kC_rnd {A : kp_A} {k : Nat} {σ : kf_St} {r : Nat} (hA : kp_Aok A k) (h : kp_Cr A σ) (hr : r < kt_nr (ka_T A)) : f_X10_hasRound 7 (nI r) σ = some (1, σ) := by
  have h6 := hA.1.1.2.2
  rw [kp_hasRound hA.1 h.1, if_pos (kp_isN hr (by omega))]
theorem kC_rndF {A : kp_A} {k : Nat} {σ : kf_St} {x : Int32} (hA : kp_Aok A k) (h : kp_Cr A σ) (hx : ¬ kp_is x (kt_nr (ka_T A)) = true) : f_X10_hasRound 7 x σ = some (0, σ) := by
  rw [kp_hasRound hA.1 h.1, if_neg hx]
theorem kC_both {A : kp_A} {k : Nat} {σ : kf_St} {d c : Nat} (hA : kp_Aok A k) (h : kp_Cr A σ) (hd : d < kt_nd (ka_T A)) (hc : c < kt_nc (ka_T A)) : f_X10_hasBoth 7 (nI d) (nI c) σ = some (1, σ) := by
  have h6 := hA.1.1.1
  have h5 := hA.1.1.2.1
  rw [kp_hasBoth hA.1 h.1, if_pos ⟨kp_isN hd (by omega), kp_isN hc (by omega)⟩]
theorem kC_bothF {A : kp_A} {k : Nat} {σ : kf_St} {x y : Int32} (hA : kp_Aok A k) (h : kp_Cr A σ) (hx : ¬ (kp_is x (kt_nd (ka_T A)) = true ∧ kp_is y (kt_nc (ka_T A)) = true)) : f_X10_hasBoth 7 x y σ = some (0, σ) := by
  rw [kp_hasBoth hA.1 h.1, if_neg hx]
/-! the reference: its row holds S -/
theorem kM_knF {T : kp_T} {lv : Nat} {σ : kf_St} {S : kp_S} {d : Nat} (hT : kp_Tok T) (h : kp_MT T lv σ) (hS : kp_fS (σ.1 112) S) (hd : d < 6) : f_X12_knownBy 77 (nI d) σ = some (kp_kn T (S.1 d).1, σ) := by
  rw [kp_knM hT h hd, kp_kn_congr (kp_fD_f (hS.1 d hd)).1]
theorem kM_unF {T : kp_T} {lv : Nat} {σ : kf_St} {S : kp_S} {d c : Nat} (hT : kp_Tok T) (h : kp_MT T lv σ) (hS : kp_fS (σ.1 112) S) (hd : d < 6) (hc : c < kt_nc T) : f_X12_unlikeTo 77 (nI d) (nI c) σ = some (kp_un (S.1 d).1 (kt_lo T c), σ) := by
  rw [kp_unM hT h hd hc, kp_un_congr (kp_fD_f (hS.1 d hd)).1 (fun _ _ => rfl)]
theorem kM_ofF {T : kp_T} {lv : Nat} {σ : kf_St} {S : kp_S} {d : Nat} (hT : kp_Tok T) (h : kp_MT T lv σ) (hS : kp_fS (σ.1 112) S) (hd : d < kt_nd T) : f_X12_unlikeFirst 77 (nI d) σ = some (kp_un (S.1 d).1 (kt_fi T d), σ) := by
  have h6 := hT.1.1
  rw [kp_unF hT h hd, kp_un_congr (kp_fD_f (hS.1 d (by omega))).1 (fun _ _ => rfl)]
theorem kM_door {T : kp_T} {lv : Nat} {σ : kf_St} {d : Nat} (hT : kp_Tok T) (h : kp_MT T lv σ) (hd : d < kt_nd T) : f_X12_isDoor 77 (nI d) σ = some (1, σ) := by
  have h6 := hT.1.1
  rw [kp_isDoor hT h, if_pos (kp_isN hd (by omega))]
theorem kM_doorF {T : kp_T} {lv : Nat} {σ : kf_St} {x : Int32} (hT : kp_Tok T) (h : kp_MT T lv σ) (hx : ¬ kp_is x (kt_nd T) = true) : f_X12_isDoor 77 x σ = some (0, σ) := by
  rw [kp_isDoor hT h, if_neg hx]
theorem kM_call {T : kp_T} {lv : Nat} {σ : kf_St} {d : Nat} (hT : kp_Tok T) (h : kp_MT T lv σ) (hd : d < kt_nc T) : f_X12_isCaller 77 (nI d) σ = some (1, σ) := by
  have h6 := hT.1.2.1
  rw [kp_isCaller hT h, if_pos (kp_isN hd (by omega))]
theorem kM_callF {T : kp_T} {lv : Nat} {σ : kf_St} {x : Int32} (hT : kp_Tok T) (h : kp_MT T lv σ) (hx : ¬ kp_is x (kt_nc T) = true) : f_X12_isCaller 77 x σ = some (0, σ) := by
  rw [kp_isCaller hT h, if_neg hx]
theorem kM_rnd {T : kp_T} {lv : Nat} {σ : kf_St} {d : Nat} (hT : kp_Tok T) (h : kp_MT T lv σ) (hd : d < kt_nr T) : f_X12_isRound 77 (nI d) σ = some (1, σ) := by
  have h6 := hT.1.2.2
  rw [kp_isRound hT h, if_pos (kp_isN hd (by omega))]
theorem kM_rndF {T : kp_T} {lv : Nat} {σ : kf_St} {x : Int32} (hT : kp_Tok T) (h : kp_MT T lv σ) (hx : ¬ kp_is x (kt_nr T) = true) : f_X12_isRound 77 x σ = some (0, σ) := by
  rw [kp_isRound hT h, if_neg hx]
theorem kM_both {T : kp_T} {lv : Nat} {σ : kf_St} {d c : Nat} (hT : kp_Tok T) (h : kp_MT T lv σ) (hd : d < kt_nd T) (hc : c < kt_nc T) : f_X12_areBoth 77 (nI d) (nI c) σ = some (1, σ) := by
  have h6 := hT.1.1
  have h5 := hT.1.2.1
  rw [kp_areBoth hT h, if_pos ⟨kp_isN hd (by omega), kp_isN hc (by omega)⟩]
theorem kM_bothF {T : kp_T} {lv : Nat} {σ : kf_St} {x y : Int32} (hT : kp_Tok T) (h : kp_MT T lv σ) (hx : ¬ (kp_is x (kt_nd T) = true ∧ kp_is y (kt_nc T) = true)) : f_X12_areBoth 77 x y σ = some (0, σ) := by
  rw [kp_areBoth hT h, if_neg hx]
theorem kM_wm {A : kp_A} {lv : Nat} {σ τ : kf_St} (h : kp_MT (ka_T A) lv σ) (c : kp_chM kp_xM kp_jM σ τ) : kp_MT (ka_T A) lv τ := h.chM c (fun r e => by unfold kp_xM at e; omega) (by unfold kp_jM; omega)
theorem kp_se1 {n : Nat} (h : n < 2 ^ 31) : nI n ≠ -1 := fun e => nI_pos h (by rw [e]; decide)
theorem kM_co {A : kp_A} {k : Nat} {σ : kf_St} (hA : kp_Aok A k) (h : kp_Mr A σ) : ∃ lv σ', f_X12_copies 77 σ = some σ' ∧ kp_chM kp_xM kp_jM σ σ' ∧ kp_MT (ka_T A) lv σ ∧ kp_MT (ka_T A) lv σ' ∧ kp_fS (σ'.1 112) (ka_S A) ∧ kp_wsM σ' (nI (kt_se (ka_T A))) := by
  obtain ⟨⟨lv, h1⟩, h2, -⟩ := h
  obtain ⟨σ', e, c, c1, c2, c3⟩ := kp_copies h1
  have c' : kp_chM kp_xM kp_jM σ σ' := c.mono (fun r e => by unfold kp_xM; omega) (fun r e => by unfold kp_jM; omega)
  have hs := hA.1.2.2.2.2.1.2.2
  exact ⟨lv, σ', e, c', h1, kM_wm h1 c', h2.ch c1, Or.inr ⟨c3, c2, kp_se1 (by omega)⟩⟩
theorem kM_cs {A : kp_A} {k : Nat} {σ : kf_St} (hA : kp_Aok A k) (h : kp_Mr A σ) : ∃ lv σ', f_X12_copiesStill 77 σ = some σ' ∧ kp_chM kp_xM kp_jM σ σ' ∧ kp_MT (ka_T A) lv σ ∧ kp_MT (ka_T A) lv σ' ∧ kp_fS (σ'.1 112) (ka_S A) ∧ kp_wsM σ' (-1) := by
  obtain ⟨⟨lv, h1⟩, h2, -⟩ := h
  obtain ⟨σ', e, c, c1, c2⟩ := kp_copiesStill h1
  have c' : kp_chM kp_xM kp_jM σ σ' := c.mono (fun r e => by unfold kp_xM; omega) (fun r e => by unfold kp_jM; omega)
  exact ⟨lv, σ', e, c', h1, kM_wm h1 c', h2.ch c1, Or.inl ⟨c2, rfl⟩⟩
theorem kM_in {σ : kf_St} {m i : Nat} (hm : m < 2 ^ 30 - 1) (hi : i ≤ m) : f_X12_in (nI i) 0 (nI m) σ = some (1, σ) := by
  rw [kp_in0 hm, if_pos (kp_isN (by omega) (by omega))]
theorem kM_inF {σ : kf_St} {m : Nat} {x : Int32} (hm : m < 2 ^ 30 - 1) (hx : ¬ kp_is x (m + 1) = true) : f_X12_in x 0 (nI m) σ = some (0, σ) := by
  rw [kp_in0 hm, if_neg hx]
/-- one of two: 0 or 1 -/
theorem kp_pk {x : Int32} (h : kp_is x 2 = true) : x = 0 ∨ x = 1 := by
  obtain ⟨j, hj, rfl⟩ := kp_is_t (by decide) h
  rcases (show j = 0 ∨ j = 1 by omega) with rfl | rfl
  · exact Or.inl rfl
  · exact Or.inr rfl
theorem kC_pk0 (σ : kf_St) : f_X11_isPick 0 σ = some (1, σ) := rfl
theorem kC_pk1 (σ : kf_St) : f_X11_isPick 1 σ = some (1, σ) := rfl
theorem kC_pkF {x : Int32} (σ : kf_St) (hx : ¬ kp_is x 2 = true) : f_X11_isPick x σ = some (0, σ) := by
  unfold f_X11_isPick
  rw [if_neg (fun e => hx (by rw [e]; decide)), if_neg (fun e => hx (by rw [e]; decide))]
theorem kM_pk0 (σ : kf_St) : f_X12_in 0 0 1 σ = some (1, σ) := rfl
theorem kM_pk1 (σ : kf_St) : f_X12_in 1 0 1 σ = some (1, σ) := rfl
theorem kM_pkF {x : Int32} (σ : kf_St) (hx : ¬ kp_is x 2 = true) : f_X12_in x 0 1 σ = some (0, σ) := kM_inF (m := 1) (by decide) hx
theorem kC_pt {p : Nat} (hp : p < 4) (σ : kf_St) : f_X11_isPart (nI p) σ = some (1, σ) := by
  rw [kp_isPartC, if_pos (kp_isN hp (by decide))]
theorem kC_ptF {x : Int32} (hx : ¬ kp_is x 4 = true) (σ : kf_St) : f_X11_isPart x σ = some (0, σ) := by
  rw [kp_isPartC, if_neg hx]
theorem kM_pt {p : Nat} (hp : p < 4) (σ : kf_St) : f_X12_isPart (nI p) σ = some (1, σ) := by
  rw [kp_isPartM, if_pos (kp_isN hp (by decide))]
theorem kM_ptF {x : Int32} (hx : ¬ kp_is x 4 = true) (σ : kf_St) : f_X12_isPart x σ = some (0, σ) := by
  rw [kp_isPartM, if_neg hx]
theorem kM_lg {p : Nat} (hp : p ≤ 60) (σ : kf_St) : f_X12_isLong (nI p) σ = some (1, σ) := by
  rw [kp_isLongM, if_pos (kp_isN (by omega) (by decide))]
theorem kM_lgF {x : Int32} (hx : ¬ kp_is x 61 = true) (σ : kf_St) : f_X12_isLong x σ = some (0, σ) := by
  rw [kp_isLongM, if_neg hx]
theorem kp_isSomeM (x : Int32) (σ : kf_St) : f_X12_isSome x σ = some (if kp_is x 61 = true ∧ x ≠ 0 then 1 else 0, σ) := by
  unfold f_X12_isSome f_X12_in
  by_cases h : kp_is x 61 = true
  · obtain ⟨n, hn, rfl⟩ := kp_is_t (by decide) h
    by_cases h0 : n = 0
    · subst h0
      rw [if_neg (show ¬ (kp_is (nI 0) 61 = true ∧ nI 0 ≠ 0) from fun e => e.2 rfl)]
      rfl
    · have e1 : ¬ nI n < 1 := nI_nlt (a := n) (b := 1) (by omega) (by omega)
      have e2 : ¬ (60 : Int32) < nI n := nI_nlt (a := 60) (b := n) (by omega) (by decide)
      rw [if_neg e1, if_neg e2, if_pos ⟨h, fun e => nI_ne0 (by omega) (by omega) e⟩]
      rfl
  · rw [if_neg (show ¬ (kp_is x 61 = true ∧ x ≠ 0) from fun e => h e.1)]
    by_cases h1 : x < 1
    · rw [if_pos h1]; rfl
    · rw [if_neg h1]
      by_cases h2 : 60 < x
      · rw [if_pos h2]; rfl
      · refine absurd (kp_isI.mpr ⟨?_, ?_⟩) h
        · have : ¬ x.toInt < (1 : Int32).toInt := fun e => h1 (kp_ltI.mpr e)
          have e1 : (1 : Int32).toInt = 1 := by decide
          omega
        · have : ¬ (60 : Int32).toInt < x.toInt := fun e => h2 (kp_ltI.mpr e)
          have e1 : (60 : Int32).toInt = 60 := by decide
          omega
theorem kM_sm {p : Nat} (hp : p ≤ 60) (h0 : 0 < p) (σ : kf_St) : f_X12_isSome (nI p) σ = some (1, σ) := by
  rw [kp_isSomeM, if_pos ⟨kp_isN (by omega) (by decide), fun e => nI_ne0 h0 (by omega) e⟩]
theorem kM_smF {x : Int32} (hx : ¬ (kp_is x 61 = true ∧ x ≠ 0)) (σ : kf_St) : f_X12_isSome x σ = some (0, σ) := by
  rw [kp_isSomeM, if_neg hx]
/-- out of 0 .. n: below, or above -/
theorem kp_out {x : Int32} {n : Nat} (hn : n < 2 ^ 30) (h : ¬ kp_is x (n + 1) = true) : x < 0 ∨ (¬ x < 0 ∧ nI n < x) := by
  by_cases h0 : x < 0
  · exact Or.inl h0
  · obtain ⟨j, hj, rfl⟩ := nI_of h0
    exact Or.inr ⟨h0, nI_lt (Nat.lt_of_not_le (fun e => h (kp_isN (by omega) (by omega)))) hj⟩
