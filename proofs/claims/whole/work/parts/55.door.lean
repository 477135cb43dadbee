/-! ===== pure: how a DOOR moves ===== -/
def kp_tw (v t b : Int32) : Int32 := if t ≤ v then v - b else v + b
def kp_mv (L : kp_Lw) (D : kp_D) (g : Nat → Int32) (w : Nat) (dy : Int32) : kp_D := (kd_cut (fun p => kp_tw (D.1 p) (g p) (kp_st L D g w p dy)), D.2)
def kp_mny (m p : Int32) : Int32 := if m + p < 999999 then m + p else 999999
def kp_lf (T : kp_T) (D : kp_D) (c : Nat) (dy : Int32) : kp_D := ((kp_mv (kt_lg T) D (kt_lo T c) c dy).1, D.2.1 + 1, D.2.2.1, D.2.2.2.1, kp_mny D.2.2.2.2.1 (kp_py (kt_lp T) D (kt_lo T c) c dy), 1)
def kp_Dok (D : kp_D) : Prop := (∀ p, p < 4 → kp_sm (D.1 p)) ∧ (∃ i, i ≤ 999 ∧ D.2.2.1 = nI i) ∧ (∃ m, m ≤ 999999 ∧ D.2.2.2.2.1 = nI m) ∧ (D.2.2.2.2.2 = 0 ∨ D.2.2.2.2.2 = 1)
theorem kp_wn_n (v : Int32) {a : Nat} (_ : a < 2 ^ 31) : ∃ n, n ≤ a ∧ kp_wn v 0 (nI a) = nI n := by
  unfold kp_wn
  by_cases h1 : v < 0
  · exact ⟨0, Nat.zero_le _, if_pos h1⟩
  · rw [if_neg h1]
    by_cases h2 : nI a < v
    · exact ⟨a, Nat.le_refl _, if_pos h2⟩
    · rw [if_neg h2]
      obtain ⟨j, hj, rfl⟩ := nI_of h1
      exact ⟨j, Nat.le_of_not_lt (fun e => h2 (nI_lt e hj)), rfl⟩
theorem kp_tw_sm {v t x : Int32} (hv : kp_sm v) (ht : kp_sm t) : kp_sm (kp_tw v t (kp_wn x 0 (kp_of v t))) := by
  obtain ⟨a, ha, rfl⟩ := hv
  obtain ⟨b, hb, rfl⟩ := ht
  unfold kp_tw kp_of
  by_cases h : b ≤ a
  · rw [if_pos (nI_le h (by omega)), if_pos (nI_le h (by omega)), pk_sub h]
    obtain ⟨n, hn, e⟩ := kp_wn_n x (a := a - b) (by omega)
    rw [e, pk_sub (by omega)]
    exact ⟨a - n, by omega, rfl⟩
  · rw [if_neg (nI_ge (by omega) (by omega)), if_neg (nI_ge (by omega) (by omega)), pk_sub (by omega)]
    obtain ⟨n, hn, e⟩ := kp_wn_n x (a := b - a) (by omega)
    rw [e, nI_add]
    exact ⟨a + n, by omega, rfl⟩
theorem kd_cut_eq {f g : Nat → Int32} (h : ∀ q, q < 4 → f q = g q) : kd_cut f = kd_cut g := by
  funext p
  unfold kd_cut
  by_cases e : p < 4
  · rw [if_pos e, if_pos e, h p e]
  · rw [if_neg e, if_neg e]
theorem kd_cut_cut (f : Nat → Int32) : kd_cut (kd_cut f) = kd_cut f := kd_cut_eq (fun _ hq => kd_cut_at hq)
theorem kp_cD_mk {σ : kf_St} {k : Nat} {f : Nat → Int32} {a b c d e : Int32} (h0 : ∀ q, q < 4 → σ.1 (k + 1) q = f q) (h1 : σ.1 k 1 = a) (h2 : σ.1 k 2 = b) (h3 : σ.1 k 3 = c) (h4 : σ.1 k 4 = d) (h5 : σ.1 k 5 = e) : kp_cD σ k = (kd_cut f, a, b, c, d, e) := by
  unfold kp_cD
  rw [kd_cut_eq h0, h1, h2, h3, h4, h5]
theorem kp_cD_eq {σ τ : kf_St} {k : Nat} (h1 : τ.1 k = σ.1 k) (h2 : τ.1 (k + 1) = σ.1 (k + 1)) : kp_cD τ k = kp_cD σ k := by
  unfold kp_cD
  rw [h1, h2]
theorem kp_cD_p {σ : kf_St} {k q : Nat} (hq : q < 4) : (kp_cD σ k).1 q = σ.1 (k + 1) q := kd_cut_at hq
theorem kp_mv_sm {L : kp_Lw} {D : kp_D} {g : Nat → Int32} {w : Nat} {dy : Int32} (hD : ∀ p, p < 4 → kp_sm (D.1 p)) (hg : ∀ p, p < 4 → kp_sm (g p)) : ∀ p, p < 4 → kp_sm ((kp_mv L D g w dy).1 p) := by
  intro p hp
  have e : (kp_mv L D g w dy).1 p = kp_tw (D.1 p) (g p) (kp_st L D g w p dy) := kd_cut_at (f := fun p => kp_tw (D.1 p) (g p) (kp_st L D g w p dy)) hp
  rw [e]
  exact kp_tw_sm (hD p hp) (hg p hp)
theorem kp_mny_n {m : Nat} {x : Int32} (hm : m ≤ 999999) (hx : ∃ n, n ≤ 99 ∧ x = nI n) : ∃ n, n ≤ 999999 ∧ kp_mny (nI m) x = nI n := by
  obtain ⟨n, hn, rfl⟩ := hx
  unfold kp_mny
  rw [nI_add]
  by_cases h : nI (m + n) < 999999
  · rw [if_pos h]
    refine ⟨m + n, ?_, rfl⟩
    have := (nI_ltI (a := m + n) (b := 999999) (by omega) (by omega)).mp h
    omega
  · rw [if_neg h]
    exact ⟨999999, Nat.le_refl _, rfl⟩
theorem kp_py_n (L : kp_Lw) (D : kp_D) (g : Nat → Int32) (w : Nat) (dy : Int32) : ∃ n, n ≤ 99 ∧ kp_py L D g w dy = nI n := kp_wn_n _ (by decide)
theorem kp_lf_ok {T : kp_T} (hT : kp_Tok T) {D : kp_D} (hD : kp_Dok D) {c : Nat} (hc : c < kt_nc T) (dy : Int32) : kp_Dok (kp_lf T D c dy) := by
  obtain ⟨h1, h2, ⟨m, hm, em⟩, h4⟩ := hD
  refine ⟨kp_mv_sm h1 (hT.2.2.1 c hc), h2, ?_, Or.inr rfl⟩
  show ∃ n, n ≤ 999999 ∧ kp_mny D.2.2.2.2.1 _ = nI n
  rw [em]
  exact kp_mny_n hm (kp_py_n _ _ _ _ _)
/-! the class -/
theorem kp_LC.ch {a : Nat} {L : kp_Lw} {σ σ' : kf_St} (h : kp_LC a L σ) (h1 : σ'.1 a = σ.1 a) (h2 : σ'.1 (a + 1) = σ.1 (a + 1)) : kp_LC a L σ' := fun τ e1 e2 => h τ (e1.trans h1) (e2.trans h2)
theorem kp_CT.ch {T : kp_T} {σ τ : kf_St} (h : kp_CT T σ) (e : ∀ r, 7 ≤ r → r ≤ 23 → r ≠ 18 → r ≠ 21 → τ.1 r = σ.1 r) : kp_CT T τ := by
  obtain ⟨h1, h2, h3, h4, h5, h6, h7, h8⟩ := h
  refine ⟨?_, ?_, ?_, ?_, ?_, h6.ch (e 16 (by decide) (by decide) (by decide) (by decide)) (e 17 (by decide) (by decide) (by decide) (by decide)), h7.ch (e 19 (by decide) (by decide) (by decide) (by decide)) (e 20 (by decide) (by decide) (by decide) (by decide)), h8.ch (e 22 (by decide) (by decide) (by decide) (by decide)) (e 23 (by decide) (by decide) (by decide) (by decide))⟩
  · rw [e 7 (by decide) (by decide) (by decide) (by decide)]; exact h1
  · rw [e 7 (by decide) (by decide) (by decide) (by decide)]; exact h2
  · rw [e 10 (by decide) (by decide) (by decide) (by decide)]; exact h3
  · rw [e 11 (by decide) (by decide) (by decide) (by decide)]; exact h4
  · rw [e 12 (by decide) (by decide) (by decide) (by decide), e 13 (by decide) (by decide) (by decide) (by decide), e 14 (by decide) (by decide) (by decide) (by decide), e 15 (by decide) (by decide) (by decide) (by decide)]; exact h5
theorem kp_mv2 {σ : kf_St} {k : Nat} {S : Nat → Prop} (hk : kp_isK k) (hS : S (k + 1)) {x y : Nat → Int32} : ∀ (m p : Nat), p + m = 4 → ∀ fuel, m < fuel → ∀ τ, kp_ch S σ τ → (∀ q, q < 4 → τ.1 65 q = y q) → (∀ q, q < 4 → τ.1 (k + 1) q = if q < p then x q + y q else x q) → ∃ τ', f_X4_moveBy_79 fuel 63 k (nI p) τ = some τ' ∧ kp_ch S σ τ' ∧ (∀ q, q < 4 → τ'.1 (k + 1) q = x q + y q) := by
  obtain ⟨hk1, hk2, hk3⟩ := hk
  intro m
  induction m with
  | zero =>
    intro p hp fuel hf τ h1 h2 h3
    obtain ⟨n, rfl⟩ := kp_fuel (show 0 < fuel by omega)
    obtain rfl : p = 4 := by omega
    refine ⟨τ, ?_, h1, fun q hq => by rw [h3 q hq, if_pos hq]⟩
    show f_X4_moveBy_79_s _ 63 k (nI 4) τ = _
    unfold f_X4_moveBy_79_s
    simp (disch := omega) only [↓reduceIte, kz_lt, Option.bind_some, kz_ix, kz_leT, kz_leF, kz_ltT, kz_ltF, kz_lt0, kz_0le, kz_0ltT, kz_le0F, kz_eq0F, kz_10, kz_00, kz_11, kz_01, nI_clamp, nI_1, nI_add, pk_mul, kn2, kn3, kn4, kn5, kn6, kn7, kn8, kn9, kn10, kn16, kn20, kn24, kn30, kn32, kn36, kn40, kn41, kn42, kn48, kn54, kn60, kn61, kn64, kn69, kn70, kn99, kn100, kc0, kc1, kc2, kc3, kc4, kc5, kc6, kc7, kc8, kc9, kc10, kx0, kx1, kx2, kx3, kx4, kx5, kx6, kx7, kx8, kr0_0, kr0_1, kr0_2, kr0_3, kr0_4, kr0_5, kr0_6, kr0_7, kr0_8, kr0_9, kr1_1, kr1_2, kr1_3, kr1_4, kr1_5, kr7_6, kr7_7, kr7_8, kr7_9, kr7_10, kr7_11, kr7_12, kr7_13, kr7_14, kr7_15, kr7_16, kr16_1, kr16_2, kr19_1, kr19_2, kr22_1, kr22_2, kr25_6, kr25_7, kr25_8, kr25_9, kr25_10, kr25_11, kr25_12, kr25_13, kr25_14, kr25_15, kr25_16, kr34_1, kr34_2, kr37_1, kr37_2, kr40_1, kr40_2, kr43_2, kr43_3, kr44_0, kr44_1, kr44_4, kr46_0, kr48_0, kr50_0, kr52_0, kr54_0, kr56_0, kr60_3, kr60_4, kr63_0, kr63_1, kr63_2, kr66_0, kr66_1, kr66_2, kr66_3, kr66_4, kr67_0, kr70_0, kr70_1, kr70_2, kr72_1, kr72_2, kr72_3, kr72_4, kr72_5, kr72_6, kr72_7, kl2, kl3, kl4, kl5, kl6, kl8, kl9, kl10, kl11, kl12, kl13, kl14, kl15, kl17, kl18, kl20, kl21, kl23, kl24, kl26, kl27, kl28, kl29, kl30, kl31, kl32, kl33, kl35, kl36, kl38, kl39, kl41, kl42, kl45, kl47, kl49, kl51, kl53, kl55, kl57, kl58, kl59, kl61, kl62, kl64, kl65, kl68, kl69, kl71, kl73, kl74, kl75, kl76]
  | succ m ih =>
    intro p hp fuel hf τ h1 h2 h3
    obtain ⟨n, rfl⟩ := kp_fuel (show 0 < fuel by omega)
    show ∃ τ', f_X4_moveBy_79_s _ 63 k (nI p) τ = some τ' ∧ _
    unfold f_X4_moveBy_79_s
    simp (disch := omega) only [↓reduceIte, kz_lt, Option.bind_some, kz_ix, kz_leT, kz_leF, kz_ltT, kz_ltF, kz_lt0, kz_0le, kz_0ltT, kz_le0F, kz_eq0F, kz_10, kz_00, kz_11, kz_01, nI_clamp, nI_1, nI_add, pk_mul, kn2, kn3, kn4, kn5, kn6, kn7, kn8, kn9, kn10, kn16, kn20, kn24, kn30, kn32, kn36, kn40, kn41, kn42, kn48, kn54, kn60, kn61, kn64, kn69, kn70, kn99, kn100, kc0, kc1, kc2, kc3, kc4, kc5, kc6, kc7, kc8, kc9, kc10, kx0, kx1, kx2, kx3, kx4, kx5, kx6, kx7, kx8, kr0_0, kr0_1, kr0_2, kr0_3, kr0_4, kr0_5, kr0_6, kr0_7, kr0_8, kr0_9, kr1_1, kr1_2, kr1_3, kr1_4, kr1_5, kr7_6, kr7_7, kr7_8, kr7_9, kr7_10, kr7_11, kr7_12, kr7_13, kr7_14, kr7_15, kr7_16, kr16_1, kr16_2, kr19_1, kr19_2, kr22_1, kr22_2, kr25_6, kr25_7, kr25_8, kr25_9, kr25_10, kr25_11, kr25_12, kr25_13, kr25_14, kr25_15, kr25_16, kr34_1, kr34_2, kr37_1, kr37_2, kr40_1, kr40_2, kr43_2, kr43_3, kr44_0, kr44_1, kr44_4, kr46_0, kr48_0, kr50_0, kr52_0, kr54_0, kr56_0, kr60_3, kr60_4, kr63_0, kr63_1, kr63_2, kr66_0, kr66_1, kr66_2, kr66_3, kr66_4, kr67_0, kr70_0, kr70_1, kr70_2, kr72_1, kr72_2, kr72_3, kr72_4, kr72_5, kr72_6, kr72_7, kl2, kl3, kl4, kl5, kl6, kl8, kl9, kl10, kl11, kl12, kl13, kl14, kl15, kl17, kl18, kl20, kl21, kl23, kl24, kl26, kl27, kl28, kl29, kl30, kl31, kl32, kl33, kl35, kl36, kl38, kl39, kl41, kl42, kl45, kl47, kl49, kl51, kl53, kl55, kl57, kl58, kl59, kl61, kl62, kl64, kl65, kl68, kl69, kl71, kl73, kl74, kl75, kl76, hk1, hk2, h2 p (by omega), h3 p (by omega), if_neg (Nat.lt_irrefl p)]
    refine ih (p + 1) (by omega) n (by omega) _ (h1.wi hS) (fun q hq => ?_) (fun q hq => ?_)
    · rw [kp_wi_row (by omega)]; exact h2 q hq
    · by_cases e : q = p
      · rw [e, kp_wi_same, if_pos (by omega)]
      · rw [kp_wi_col e, h3 q hq]
        by_cases e2 : q < p
        · rw [if_pos e2, if_pos (by omega)]
        · rw [if_neg e2, if_neg (by omega)]
theorem kp_mv1 {σ : kf_St} {a k g w : Nat} {L : kp_Lw} {dy : Int32} {gf : Nat → Int32} (hL : kp_LC a L σ) (h9 : kp_L9 L) (ha : a = 16 ∨ a = 19 ∨ a = 22) (hk : kp_isK k) (hg : g = 10 ∨ g = 11) (hw : 4 * w + 4 ≤ kf_ln g) (hgf : ∀ q, q < 4 → σ.1 g (4 * w + q) = gf q) (hs : ∀ q, q < 4 → kp_sm (σ.1 (k + 1) q)) (hs2 : ∀ q, q < 4 → kp_sm (gf q)) : ∀ (m p : Nat), p + m = 4 → ∀ fuel, m < fuel → ∀ τ, kp_ch (fun r => r = 64 ∨ r = 65 ∨ r = a + 2) σ τ → (∀ q, q < p → τ.1 65 q = if gf q ≤ σ.1 (k + 1) q then -(kp_st L (kp_cD σ k) gf w q dy) else kp_st L (kp_cD σ k) gf w q dy) → ∃ τ', f_X4_moveBy_3 fuel 63 a k g (nI w) dy (nI p) τ = some τ' ∧ kp_ch (fun r => r = 64 ∨ r = 65 ∨ r = a + 2 ∨ r = k + 1) σ τ' ∧ (∀ q, q < 4 → τ'.1 (k + 1) q = σ.1 (k + 1) q + (if gf q ≤ σ.1 (k + 1) q then -(kp_st L (kp_cD σ k) gf w q dy) else kp_st L (kp_cD σ k) gf w q dy)) := by
  have hk' := hk
  obtain ⟨hk1, hk2, hk3⟩ := hk'
  have hg2 : kf_ln g < 2 ^ 30 := by rcases hg with rfl | rfl <;> decide
  intro m
  induction m with
  | zero =>
    intro p hp fuel hf τ h1 h2
    obtain ⟨n, rfl⟩ := kp_fuel (show 0 < fuel by omega)
    obtain rfl : p = 4 := by omega
    show ∃ τ', f_X4_moveBy_3_s _ 63 a k g (nI w) dy (nI 4) τ = some τ' ∧ _
    unfold f_X4_moveBy_3_s
    simp (disch := omega) only [↓reduceIte, kz_lt, Option.bind_some, kz_ix, kz_leT, kz_leF, kz_ltT, kz_ltF, kz_lt0, kz_0le, kz_0ltT, kz_le0F, kz_eq0F, kz_10, kz_00, kz_11, kz_01, nI_clamp, nI_1, nI_add, pk_mul, kn2, kn3, kn4, kn5, kn6, kn7, kn8, kn9, kn10, kn16, kn20, kn24, kn30, kn32, kn36, kn40, kn41, kn42, kn48, kn54, kn60, kn61, kn64, kn69, kn70, kn99, kn100, kc0, kc1, kc2, kc3, kc4, kc5, kc6, kc7, kc8, kc9, kc10, kx0, kx1, kx2, kx3, kx4, kx5, kx6, kx7, kx8, kr0_0, kr0_1, kr0_2, kr0_3, kr0_4, kr0_5, kr0_6, kr0_7, kr0_8, kr0_9, kr1_1, kr1_2, kr1_3, kr1_4, kr1_5, kr7_6, kr7_7, kr7_8, kr7_9, kr7_10, kr7_11, kr7_12, kr7_13, kr7_14, kr7_15, kr7_16, kr16_1, kr16_2, kr19_1, kr19_2, kr22_1, kr22_2, kr25_6, kr25_7, kr25_8, kr25_9, kr25_10, kr25_11, kr25_12, kr25_13, kr25_14, kr25_15, kr25_16, kr34_1, kr34_2, kr37_1, kr37_2, kr40_1, kr40_2, kr43_2, kr43_3, kr44_0, kr44_1, kr44_4, kr46_0, kr48_0, kr50_0, kr52_0, kr54_0, kr56_0, kr60_3, kr60_4, kr63_0, kr63_1, kr63_2, kr66_0, kr66_1, kr66_2, kr66_3, kr66_4, kr67_0, kr70_0, kr70_1, kr70_2, kr72_1, kr72_2, kr72_3, kr72_4, kr72_5, kr72_6, kr72_7, kl2, kl3, kl4, kl5, kl6, kl8, kl9, kl10, kl11, kl12, kl13, kl14, kl15, kl17, kl18, kl20, kl21, kl23, kl24, kl26, kl27, kl28, kl29, kl30, kl31, kl32, kl33, kl35, kl36, kl38, kl39, kl41, kl42, kl45, kl47, kl49, kl51, kl53, kl55, kl57, kl58, kl59, kl61, kl62, kl64, kl65, kl68, kl69, kl71, kl73, kl74, kl75, kl76]
    exact kp_mv2 (S := fun r => r = 64 ∨ r = 65 ∨ r = a + 2 ∨ r = k + 1) hk (Or.inr (Or.inr (Or.inr rfl))) 4 0 rfl kf_F (kf_F_gt (by decide)) τ (h1.mono (fun r h => by omega)) (fun q hq => h2 q hq) (fun q hq => by rw [if_neg (Nat.not_lt_zero q), h1.1 (k + 1) (by omega)])
  | succ m ih =>
    intro p hp fuel hf τ h1 h2
    obtain ⟨n, rfl⟩ := kp_fuel (show 0 < fuel by omega)
    show ∃ τ', f_X4_moveBy_3_s _ 63 a k g (nI w) dy (nI p) τ = some τ' ∧ _
    have eg : τ.1 g = σ.1 g := h1.1 g (by omega)
    have ek : τ.1 k = σ.1 k := h1.1 k (by omega)
    have ek1 : τ.1 (k + 1) = σ.1 (k + 1) := h1.1 (k + 1) (by omega)
    obtain ⟨τ1, e1, e2⟩ := kp_stepOf (σ := τ) (p := p) (dy := dy) (hL.ch (h1.1 a (by omega)) (h1.1 (a + 1) (by omega))) h9 ⟨by omega, by omega⟩ hk hw hg2 (gf := gf) (fun q hq => by rw [eg]; exact hgf q hq) (fun q hq => by rw [ek1]; exact hs q hq) hs2 (by omega)
    rw [kp_cD_eq ek ek1] at e1
    have e3 : kp_ch (fun r => r = 64 ∨ r = 65 ∨ r = a + 2) σ τ1 := h1.tr (e2.mono (fun r h => by omega))
    unfold f_X4_moveBy_3_s
    simp (disch := omega) only [↓reduceIte, kz_lt, Option.bind_some, kz_ix, kz_leT, kz_leF, kz_ltT, kz_ltF, kz_lt0, kz_0le, kz_0ltT, kz_le0F, kz_eq0F, kz_10, kz_00, kz_11, kz_01, nI_clamp, nI_1, nI_add, pk_mul, kn2, kn3, kn4, kn5, kn6, kn7, kn8, kn9, kn10, kn16, kn20, kn24, kn30, kn32, kn36, kn40, kn41, kn42, kn48, kn54, kn60, kn61, kn64, kn69, kn70, kn99, kn100, kc0, kc1, kc2, kc3, kc4, kc5, kc6, kc7, kc8, kc9, kc10, kx0, kx1, kx2, kx3, kx4, kx5, kx6, kx7, kx8, kr0_0, kr0_1, kr0_2, kr0_3, kr0_4, kr0_5, kr0_6, kr0_7, kr0_8, kr0_9, kr1_1, kr1_2, kr1_3, kr1_4, kr1_5, kr7_6, kr7_7, kr7_8, kr7_9, kr7_10, kr7_11, kr7_12, kr7_13, kr7_14, kr7_15, kr7_16, kr16_1, kr16_2, kr19_1, kr19_2, kr22_1, kr22_2, kr25_6, kr25_7, kr25_8, kr25_9, kr25_10, kr25_11, kr25_12, kr25_13, kr25_14, kr25_15, kr25_16, kr34_1, kr34_2, kr37_1, kr37_2, kr40_1, kr40_2, kr43_2, kr43_3, kr44_0, kr44_1, kr44_4, kr46_0, kr48_0, kr50_0, kr52_0, kr54_0, kr56_0, kr60_3, kr60_4, kr63_0, kr63_1, kr63_2, kr66_0, kr66_1, kr66_2, kr66_3, kr66_4, kr67_0, kr70_0, kr70_1, kr70_2, kr72_1, kr72_2, kr72_3, kr72_4, kr72_5, kr72_6, kr72_7, kl2, kl3, kl4, kl5, kl6, kl8, kl9, kl10, kl11, kl12, kl13, kl14, kl15, kl17, kl18, kl20, kl21, kl23, kl24, kl26, kl27, kl28, kl29, kl30, kl31, kl32, kl33, kl35, kl36, kl38, kl39, kl41, kl42, kl45, kl47, kl49, kl51, kl53, kl55, kl57, kl58, kl59, kl61, kl62, kl64, kl65, kl68, kl69, kl71, kl73, kl74, kl75, kl76, hk1, hk2, e1, e3.1 g (by omega), e3.1 (k + 1) (by omega), hgf p (by omega)]
    have fin : ∀ v, v = (if gf p ≤ σ.1 (k + 1) p then -(kp_st L (kp_cD σ k) gf w p dy) else kp_st L (kp_cD σ k) gf w p dy) → ∃ τ', f_X4_moveBy_3 n 63 a k g (nI w) dy (nI (p + 1)) (kf_wi τ1 65 p v) = some τ' ∧ kp_ch (fun r => r = 64 ∨ r = 65 ∨ r = a + 2 ∨ r = k + 1) σ τ' ∧ (∀ q, q < 4 → τ'.1 (k + 1) q = σ.1 (k + 1) q + (if gf q ≤ σ.1 (k + 1) q then -(kp_st L (kp_cD σ k) gf w q dy) else kp_st L (kp_cD σ k) gf w q dy)) := by
      intro v hv
      refine ih (p + 1) (by omega) n (by omega) _ (kp_ch.wi (S := fun r => r = 64 ∨ r = 65 ∨ r = a + 2) e3 (Or.inr (Or.inl rfl))) (fun q hq => ?_)
      by_cases e : q = p
      · rw [e, kp_wi_same, hv]
      · rw [kp_wi_col e, e2.1 65 (by omega)]; exact h2 q (by omega)
    unfold f_X4_moveBy_48 f_X4_moveBy_69
    by_cases hb : gf p ≤ σ.1 (k + 1) p
    · have f := fin _ (if_pos hb).symm
      rw [if_pos hb]
      simp (disch := omega) only [↓reduceIte, kz_lt, Option.bind_some, kz_ix, kz_leT, kz_leF, kz_ltT, kz_ltF, kz_lt0, kz_0le, kz_0ltT, kz_le0F, kz_eq0F, kz_10, kz_00, kz_11, kz_01, nI_clamp, nI_1, nI_add, pk_mul, kn2, kn3, kn4, kn5, kn6, kn7, kn8, kn9, kn10, kn16, kn20, kn24, kn30, kn32, kn36, kn40, kn41, kn42, kn48, kn54, kn60, kn61, kn64, kn69, kn70, kn99, kn100, kc0, kc1, kc2, kc3, kc4, kc5, kc6, kc7, kc8, kc9, kc10, kx0, kx1, kx2, kx3, kx4, kx5, kx6, kx7, kx8, kr0_0, kr0_1, kr0_2, kr0_3, kr0_4, kr0_5, kr0_6, kr0_7, kr0_8, kr0_9, kr1_1, kr1_2, kr1_3, kr1_4, kr1_5, kr7_6, kr7_7, kr7_8, kr7_9, kr7_10, kr7_11, kr7_12, kr7_13, kr7_14, kr7_15, kr7_16, kr16_1, kr16_2, kr19_1, kr19_2, kr22_1, kr22_2, kr25_6, kr25_7, kr25_8, kr25_9, kr25_10, kr25_11, kr25_12, kr25_13, kr25_14, kr25_15, kr25_16, kr34_1, kr34_2, kr37_1, kr37_2, kr40_1, kr40_2, kr43_2, kr43_3, kr44_0, kr44_1, kr44_4, kr46_0, kr48_0, kr50_0, kr52_0, kr54_0, kr56_0, kr60_3, kr60_4, kr63_0, kr63_1, kr63_2, kr66_0, kr66_1, kr66_2, kr66_3, kr66_4, kr67_0, kr70_0, kr70_1, kr70_2, kr72_1, kr72_2, kr72_3, kr72_4, kr72_5, kr72_6, kr72_7, kl2, kl3, kl4, kl5, kl6, kl8, kl9, kl10, kl11, kl12, kl13, kl14, kl15, kl17, kl18, kl20, kl21, kl23, kl24, kl26, kl27, kl28, kl29, kl30, kl31, kl32, kl33, kl35, kl36, kl38, kl39, kl41, kl42, kl45, kl47, kl49, kl51, kl53, kl55, kl57, kl58, kl59, kl61, kl62, kl64, kl65, kl68, kl69, kl71, kl73, kl74, kl75, kl76]
      exact f
    · have f := fin _ (if_neg hb).symm
      rw [if_neg hb]
      simp (disch := omega) only [↓reduceIte, kz_lt, Option.bind_some, kz_ix, kz_leT, kz_leF, kz_ltT, kz_ltF, kz_lt0, kz_0le, kz_0ltT, kz_le0F, kz_eq0F, kz_10, kz_00, kz_11, kz_01, nI_clamp, nI_1, nI_add, pk_mul, kn2, kn3, kn4, kn5, kn6, kn7, kn8, kn9, kn10, kn16, kn20, kn24, kn30, kn32, kn36, kn40, kn41, kn42, kn48, kn54, kn60, kn61, kn64, kn69, kn70, kn99, kn100, kc0, kc1, kc2, kc3, kc4, kc5, kc6, kc7, kc8, kc9, kc10, kx0, kx1, kx2, kx3, kx4, kx5, kx6, kx7, kx8, kr0_0, kr0_1, kr0_2, kr0_3, kr0_4, kr0_5, kr0_6, kr0_7, kr0_8, kr0_9, kr1_1, kr1_2, kr1_3, kr1_4, kr1_5, kr7_6, kr7_7, kr7_8, kr7_9, kr7_10, kr7_11, kr7_12, kr7_13, kr7_14, kr7_15, kr7_16, kr16_1, kr16_2, kr19_1, kr19_2, kr22_1, kr22_2, kr25_6, kr25_7, kr25_8, kr25_9, kr25_10, kr25_11, kr25_12, kr25_13, kr25_14, kr25_15, kr25_16, kr34_1, kr34_2, kr37_1, kr37_2, kr40_1, kr40_2, kr43_2, kr43_3, kr44_0, kr44_1, kr44_4, kr46_0, kr48_0, kr50_0, kr52_0, kr54_0, kr56_0, kr60_3, kr60_4, kr63_0, kr63_1, kr63_2, kr66_0, kr66_1, kr66_2, kr66_3, kr66_4, kr67_0, kr70_0, kr70_1, kr70_2, kr72_1, kr72_2, kr72_3, kr72_4, kr72_5, kr72_6, kr72_7, kl2, kl3, kl4, kl5, kl6, kl8, kl9, kl10, kl11, kl12, kl13, kl14, kl15, kl17, kl18, kl20, kl21, kl23, kl24, kl26, kl27, kl28, kl29, kl30, kl31, kl32, kl33, kl35, kl36, kl38, kl39, kl41, kl42, kl45, kl47, kl49, kl51, kl53, kl55, kl57, kl58, kl59, kl61, kl62, kl64, kl65, kl68, kl69, kl71, kl73, kl74, kl75, kl76]
      exact f
theorem kp_moveBy {σ : kf_St} {a k g w : Nat} {L : kp_Lw} {dy : Int32} {gf : Nat → Int32} (hL : kp_LC a L σ) (h9 : kp_L9 L) (ha : a = 16 ∨ a = 19 ∨ a = 22) (hk : kp_isK k) (hg : g = 10 ∨ g = 11) (hw : 4 * w + 4 ≤ kf_ln g) (hgf : ∀ q, q < 4 → σ.1 g (4 * w + q) = gf q) (hs : ∀ q, q < 4 → kp_sm (σ.1 (k + 1) q)) (hs2 : ∀ q, q < 4 → kp_sm (gf q)) : ∃ σ', f_X4_moveBy 63 a k g (nI w) dy σ = some σ' ∧ kp_ch (fun r => r = 64 ∨ r = 65 ∨ r = a + 2 ∨ r = k + 1) σ σ' ∧ kp_cD σ' k = kp_mv L (kp_cD σ k) gf w dy := by
  obtain ⟨σ', h1, h2, h3⟩ := kp_mv1 (dy := dy) hL h9 ha hk hg hw hgf hs hs2 4 0 rfl kf_F (kf_F_gt (by decide)) σ kp_ch.rf (fun q hq => absurd hq (Nat.not_lt_zero q))
  refine ⟨σ', h1, h2, ?_⟩
  have hk3 := hk.2.2
  have ek : σ'.1 k = σ.1 k := h2.1 k (by omega)
  refine kp_cD_mk (fun q hq => ?_) (by rw [ek]) (by rw [ek]) (by rw [ek]) (by rw [ek]) (by rw [ek])
  rw [h3 q hq, kp_cD_p hq]
  unfold kp_tw
  by_cases hb : gf q ≤ σ.1 (k + 1) q
  · rw [if_pos hb, if_pos hb, Int32.sub_eq_add_neg]
  · rw [if_neg hb, if_neg hb]
theorem kp_payOf {T : kp_T} {σ : kf_St} {k c : Nat} {dy : Int32} (hT : kp_Tok T) (h : kp_CT T σ) (hk : kp_isK k) (hc : c < kt_nc T) (hs : ∀ q, q < 4 → kp_sm (σ.1 (k + 1) q)) : ∃ σ', f_X4_payOf 63 k (nI c) dy σ = some (kp_py (kt_lp T) (kp_cD σ k) (kt_lo T c) c dy, σ') ∧ kp_ch (fun r => r = 64 ∨ r = 24) σ σ' := by
  obtain ⟨hk1, hk2, hk3⟩ := hk
  have eU : kp_un (σ.1 (k + 1)) (kt_lo T c) = kp_un (kp_cD σ k).1 (kt_lo T c) := kp_un_congr (fun q hq => (kp_cD_p hq).symm) (fun _ _ => rfl)
  have hch : kp_ch (fun r => r = 64) σ (kf_wi (kf_wi (kf_wi (kp_lk σ k (nI c) (kp_un (kp_cD σ k).1 (kt_lo T c)) dy) 64 0 0) 64 1 0) 64 5 0) := kp_ch.wi (S := fun r => r = 64) (kp_ch.wi (S := fun r => r = 64) (kp_ch.wi (S := fun r => r = 64) (kp_lk_ch σ k _ _ _) rfl) rfl) rfl
  obtain ⟨σ'', h1, h2⟩ := h.2.2.2.2.2.2.2 _ (hch.1 22 (by decide)) (hch.1 23 (by decide))
  unfold f_X4_payOf
  simp (disch := omega) only [↓reduceIte, kz_lt, Option.bind_some, kz_ix, kz_leT, kz_leF, kz_ltT, kz_ltF, kz_lt0, kz_0le, kz_0ltT, kz_le0F, kz_eq0F, kz_10, kz_00, kz_11, kz_01, nI_clamp, nI_1, nI_add, pk_mul, kc0, kc1, kc2, kc3, kc4, kc5, kc6, kc7, kc8, kc9, kc10, kx0, kx1, kx2, kx3, kx4, kx5, kx6, kx7, kx8, kr0_0, kr0_1, kr0_2, kr0_3, kr0_4, kr0_5, kr0_6, kr0_7, kr0_8, kr0_9, kr1_1, kr1_2, kr1_3, kr1_4, kr1_5, kr7_6, kr7_7, kr7_8, kr7_9, kr7_10, kr7_11, kr7_12, kr7_13, kr7_14, kr7_15, kr7_16, kr16_1, kr16_2, kr19_1, kr19_2, kr22_1, kr22_2, kr25_6, kr25_7, kr25_8, kr25_9, kr25_10, kr25_11, kr25_12, kr25_13, kr25_14, kr25_15, kr25_16, kr34_1, kr34_2, kr37_1, kr37_2, kr40_1, kr40_2, kr43_2, kr43_3, kr44_0, kr44_1, kr44_4, kr46_0, kr48_0, kr50_0, kr52_0, kr54_0, kr56_0, kr60_3, kr60_4, kr63_0, kr63_1, kr63_2, kr66_0, kr66_1, kr66_2, kr66_3, kr66_4, kr67_0, kr70_0, kr70_1, kr70_2, kr72_1, kr72_2, kr72_3, kr72_4, kr72_5, kr72_6, kr72_7, kl2, kl3, kl4, kl5, kl6, kl8, kl9, kl10, kl11, kl12, kl13, kl14, kl15, kl17, kl18, kl20, kl21, kl23, kl24, kl26, kl27, kl28, kl29, kl30, kl31, kl32, kl33, kl35, kl36, kl38, kl39, kl41, kl42, kl45, kl47, kl49, kl51, kl53, kl55, kl57, kl58, kl59, kl61, kl62, kl64, kl65, kl68, kl69, kl71, kl73, kl74, kl75, kl76, hk1, hk2, kp_unC hT h hk2 hs hc, eU, kp_look (show k ≠ 64 by omega), h1]
  refine ⟨σ'', ?_, (hch.mono (fun r h => Or.inl h)).tr (h2.mono (fun r h => Or.inr h))⟩
  rw [kp_wnC (by decide), hT.2.2.2.2.2.2.2 _ _ (kp_va9p σ k (nI c) (kp_un (kp_cD σ k).1 (kt_lo T c)) dy)]
  rfl
theorem kp_un_cD {σ : kf_St} {k : Nat} {g : Nat → Int32} : kp_un (kp_cD σ k).1 g = kp_un (σ.1 (k + 1)) g := kp_un_congr (fun _ hq => kp_cD_p hq) (fun _ _ => rfl)
theorem kp_liftBy {T : kp_T} {σ : kf_St} {k c : Nat} {dy : Int32} (hT : kp_Tok T) (h : kp_CT T σ) (hk : kp_isK k) (hc : c < kt_nc T) (hs : ∀ q, q < 4 → kp_sm (σ.1 (k + 1) q)) : ∃ σ', f_X4_liftBy 63 k (nI c) dy σ = some σ' ∧ kp_ch (fun r => r = 64 ∨ r = 65 ∨ r = 18 ∨ r = 24 ∨ r = k ∨ r = k + 1) σ σ' ∧ kp_cD σ' k = kp_lf T (kp_cD σ k) c dy := by
  have hk3 := hk.2.2
  have h5 := hT.1.2.1
  obtain ⟨σ1, a1, a2⟩ := kp_payOf (dy := dy) hT h hk hc hs
  have c1 : kp_ch (fun r => r = 64 ∨ r = 65 ∨ r = 18 ∨ r = 24 ∨ r = k ∨ r = k + 1) σ (kf_wi σ1 k 4 (kp_mny (σ.1 k 4) (kp_py (kt_lp T) (kp_cD σ k) (kt_lo T c) c dy))) := kp_ch.wi (S := fun r => r = 64 ∨ r = 65 ∨ r = 18 ∨ r = 24 ∨ r = k ∨ r = k + 1) (a2.mono (fun r h => by omega)) (by omega)
  have hc2 := h.ch (τ := kf_wi σ1 k 4 (kp_mny (σ.1 k 4) (kp_py (kt_lp T) (kp_cD σ k) (kt_lo T c) c dy))) (fun r e1 e2 e3 e4 => by rw [kz_rowf (by omega)]; exact a2.1 r (by omega))
  have er : (kf_wi σ1 k 4 (kp_mny (σ.1 k 4) (kp_py (kt_lp T) (kp_cD σ k) (kt_lo T c) c dy))).1 (k + 1) = σ.1 (k + 1) := by rw [kz_rowf (by omega)]; exact a2.1 (k + 1) (by omega)
  have ek1 : σ1.1 k = σ.1 k := a2.1 k (by omega)
  obtain ⟨σ2, b1, b2, b3⟩ := kp_moveBy (dy := dy) (w := c) (gf := kt_lo T c) hc2.2.2.2.2.2.1 hT.2.2.2.2.2.1 (Or.inl rfl) hk (Or.inr rfl) (by show _ ≤ 20; omega) (fun q hq => hc2.2.2.2.1 c hc q hq) (fun q hq => by rw [er]; exact hs q hq) (hT.2.2.1 c hc)
  have ed : kp_cD (kf_wi σ1 k 4 (kp_mny (σ.1 k 4) (kp_py (kt_lp T) (kp_cD σ k) (kt_lo T c) c dy))) k = ((kp_cD σ k).1, σ.1 k 1, σ.1 k 2, σ.1 k 3, kp_mny (σ.1 k 4) (kp_py (kt_lp T) (kp_cD σ k) (kt_lo T c) c dy), σ.1 k 5) := by
    refine (kp_cD_mk (f := σ.1 (k + 1)) (fun q hq => by rw [er]) ?_ ?_ ?_ ?_ ?_).trans rfl
    · rw [kp_wi_col (by decide), ek1]
    · rw [kp_wi_col (by decide), ek1]
    · rw [kp_wi_col (by decide), ek1]
    · rw [kp_wi_same]
    · rw [kp_wi_col (by decide), ek1]
  rw [ed] at b3
  unfold f_X4_liftBy
  simp (disch := omega) only [↓reduceIte, kz_lt, Option.bind_some, kz_ix, kz_leT, kz_leF, kz_ltT, kz_ltF, kz_lt0, kz_0le, kz_0ltT, kz_le0F, kz_eq0F, kz_10, kz_00, kz_11, kz_01, nI_clamp, nI_1, nI_add, pk_mul, kc0, kc1, kc2, kc3, kc4, kc5, kc6, kc7, kc8, kc9, kc10, kx0, kx1, kx2, kx3, kx4, kx5, kx6, kx7, kx8, kr0_0, kr0_1, kr0_2, kr0_3, kr0_4, kr0_5, kr0_6, kr0_7, kr0_8, kr0_9, kr1_1, kr1_2, kr1_3, kr1_4, kr1_5, kr7_6, kr7_7, kr7_8, kr7_9, kr7_10, kr7_11, kr7_12, kr7_13, kr7_14, kr7_15, kr7_16, kr16_1, kr16_2, kr19_1, kr19_2, kr22_1, kr22_2, kr25_6, kr25_7, kr25_8, kr25_9, kr25_10, kr25_11, kr25_12, kr25_13, kr25_14, kr25_15, kr25_16, kr34_1, kr34_2, kr37_1, kr37_2, kr40_1, kr40_2, kr43_2, kr43_3, kr44_0, kr44_1, kr44_4, kr46_0, kr48_0, kr50_0, kr52_0, kr54_0, kr56_0, kr60_3, kr60_4, kr63_0, kr63_1, kr63_2, kr66_0, kr66_1, kr66_2, kr66_3, kr66_4, kr67_0, kr70_0, kr70_1, kr70_2, kr72_1, kr72_2, kr72_3, kr72_4, kr72_5, kr72_6, kr72_7, kl2, kl3, kl4, kl5, kl6, kl8, kl9, kl10, kl11, kl12, kl13, kl14, kl15, kl17, kl18, kl20, kl21, kl23, kl24, kl26, kl27, kl28, kl29, kl30, kl31, kl32, kl33, kl35, kl36, kl38, kl39, kl41, kl42, kl45, kl47, kl49, kl51, kl53, kl55, kl57, kl58, kl59, kl61, kl62, kl64, kl65, kl68, kl69, kl71, kl73, kl74, kl75, kl76, a1, ek1]
  rw [show (if σ.1 k 4 + kp_py (kt_lp T) (kp_cD σ k) (kt_lo T c) c dy < 999999 then σ.1 k 4 + kp_py (kt_lp T) (kp_cD σ k) (kt_lo T c) c dy else 999999) = kp_mny (σ.1 k 4) (kp_py (kt_lp T) (kp_cD σ k) (kt_lo T c) c dy) from rfl, b1, Option.bind_some]
  have c2 := c1.tr (b2.mono (T := fun r => r = 64 ∨ r = 65 ∨ r = 18 ∨ r = 24 ∨ r = k ∨ r = k + 1) (fun r h => by omega))
  refine ⟨_, rfl, kp_ch.wi (S := fun r => r = 64 ∨ r = 65 ∨ r = 18 ∨ r = 24 ∨ r = k ∨ r = k + 1) (kp_ch.wi (S := fun r => r = 64 ∨ r = 65 ∨ r = 18 ∨ r = 24 ∨ r = k ∨ r = k + 1) c2 (by omega)) (by omega), ?_⟩
  have g0 := congrArg Prod.fst b3
  have g1 := congrArg (fun D : kp_D => D.2) b3
  dsimp only [kp_cD, kp_mv] at g0 g1
  injection g1 with g1 g2
  injection g2 with g2 g3
  injection g3 with g3 g4
  injection g4 with g4 g5
  have key : kp_cD (kf_wi (kf_wi σ2 k 1 (σ2.1 k 1 + 1)) k 5 1) k = (kd_cut (σ2.1 (k + 1)), σ.1 k 1 + 1, σ.1 k 2, σ.1 k 3, kp_mny (σ.1 k 4) (kp_py (kt_lp T) (kp_cD σ k) (kt_lo T c) c dy), 1) := by
    refine kp_cD_mk (fun q hq => ?_) ?_ ?_ ?_ ?_ ?_
    · rw [kp_wi_row (by omega), kp_wi_row (by omega)]
    · rw [kp_wi_col (by decide), kp_wi_same, g1]
    · rw [kp_wi_col (by decide), kp_wi_col (by decide), g2]
    · rw [kp_wi_col (by decide), kp_wi_col (by decide), g3]
    · rw [kp_wi_col (by decide), kp_wi_col (by decide), g4]; rfl
    · rw [kp_wi_same]
  rw [key, g0]
  rfl
