/-! ===== pure: rubbing, rounds, winds, a DAY of one DOOR ===== -/
def kp_rb (T : kp_T) (D : kp_D) (d : Nat) : kp_D := (kd_cut (fun p => kp_tw (D.1 p) (kt_fi T d p) (kp_of (D.1 p) (kt_fi T d p) / 2)), D.2.1, D.2.2.1, D.2.2.2.1 + 1, D.2.2.2.2)
theorem kp_half_all : ∀ a, a < 100 → ∀ b, b < 100 → nI a + (nI b - nI a) / 2 = kp_tw (nI a) (nI b) (kp_of (nI a) (nI b) / 2) := by decide +kernel
theorem kp_half {x y : Int32} (hx : kp_sm x) (hy : kp_sm y) : x + (y - x) / 2 = kp_tw x y (kp_of x y / 2) := by
  obtain ⟨a, ha, rfl⟩ := hx
  obtain ⟨b, hb, rfl⟩ := hy
  exact kp_half_all a ha b hb
theorem kp_half_sm {x y : Int32} (hx : kp_sm x) (hy : kp_sm y) : kp_sm (kp_tw x y (kp_of x y / 2)) := by
  obtain ⟨a, ha, rfl⟩ := hx
  obtain ⟨b, hb, rfl⟩ := hy
  unfold kp_tw kp_of
  by_cases h : b ≤ a
  · rw [if_pos (nI_le h (by omega)), if_pos (nI_le h (by omega)), pk_sub h, kn2, pk_div (by omega) (by decide) (by decide), pk_sub (by omega)]
    exact ⟨_, by omega, rfl⟩
  · rw [if_neg (nI_ge (by omega) (by omega)), if_neg (nI_ge (by omega) (by omega)), pk_sub (by omega), kn2, pk_div (by omega) (by decide) (by decide), nI_add]
    exact ⟨_, by omega, rfl⟩
theorem kp_rb_ok {T : kp_T} (hT : kp_Tok T) {D : kp_D} (hD : kp_Dok D) {d : Nat} (hd : d < kt_nd T) : kp_Dok (kp_rb T D d) := by
  refine ⟨fun p hp => ?_, hD.2.1, hD.2.2.1, hD.2.2.2⟩
  have e : (kp_rb T D d).1 p = kp_tw (D.1 p) (kt_fi T d p) (kp_of (D.1 p) (kt_fi T d p) / 2) := kd_cut_at (f := fun p => kp_tw (D.1 p) (kt_fi T d p) (kp_of (D.1 p) (kt_fi T d p) / 2)) hp
  rw [e]
  exact kp_half_sm (hD.1 p hp) (hT.2.1 d hd p hp)
theorem kz_20 : ((2 : Int32) = 0) = False := eq_false (by decide)
theorem kp_rub_loop {T : kp_T} {σ : kf_St} {k d : Nat} (hT : kp_Tok T) (h : kp_CT T σ) (hk : kp_isK k) (hd : d < kt_nd T) (hs : ∀ q, q < 4 → kp_sm (σ.1 (k + 1) q)) : ∀ (m p : Nat), p + m = 4 → ∀ fuel, m < fuel → ∀ τ, kp_ch (fun r => r = k ∨ r = k + 1) σ τ → τ.1 k = σ.1 k → (∀ q, q < 4 → τ.1 (k + 1) q = if q < p then kp_tw (σ.1 (k + 1) q) (kt_fi T d q) (kp_of (σ.1 (k + 1) q) (kt_fi T d q) / 2) else σ.1 (k + 1) q) → ∃ τ', f_X4_rub_2 fuel 63 k (nI d) (nI p) τ = some τ' ∧ kp_ch (fun r => r = k ∨ r = k + 1) σ τ' ∧ kp_cD τ' k = kp_rb T (kp_cD σ k) d := by
  obtain ⟨hk1, hk2, hk3⟩ := hk
  have h6 := hT.1.1
  intro m
  induction m with
  | zero =>
    intro p hp fuel hf τ h1 h2 h3
    obtain ⟨n, rfl⟩ := kp_fuel (show 0 < fuel by omega)
    obtain rfl : p = 4 := by omega
    show ∃ τ', f_X4_rub_2_s _ 63 k (nI d) (nI 4) τ = some τ' ∧ _
    unfold f_X4_rub_2_s
    simp (disch := omega) only [↓reduceIte, kz_lt, Option.bind_some, kz_ix, kz_leT, kz_leF, kz_ltT, kz_ltF, kz_lt0, kz_0le, kz_0ltT, kz_le0F, kz_eq0F, kz_10, kz_00, kz_11, kz_01, nI_clamp, nI_1, nI_add, pk_mul, kn2, kn3, kn4, kn5, kn6, kn7, kn8, kn9, kn10, kn16, kn20, kn24, kn30, kn32, kn36, kn40, kn41, kn42, kn48, kn54, kn60, kn61, kn64, kn69, kn70, kn99, kn100, kc0, kc1, kc2, kc3, kc4, kc5, kc6, kc7, kc8, kc9, kc10, kx0, kx1, kx2, kx3, kx4, kx5, kx6, kx7, kx8, kr0_0, kr0_1, kr0_2, kr0_3, kr0_4, kr0_5, kr0_6, kr0_7, kr0_8, kr0_9, kr1_1, kr1_2, kr1_3, kr1_4, kr1_5, kr7_6, kr7_7, kr7_8, kr7_9, kr7_10, kr7_11, kr7_12, kr7_13, kr7_14, kr7_15, kr7_16, kr16_1, kr16_2, kr19_1, kr19_2, kr22_1, kr22_2, kr25_6, kr25_7, kr25_8, kr25_9, kr25_10, kr25_11, kr25_12, kr25_13, kr25_14, kr25_15, kr25_16, kr34_1, kr34_2, kr37_1, kr37_2, kr40_1, kr40_2, kr43_2, kr43_3, kr44_0, kr44_1, kr44_4, kr46_0, kr48_0, kr50_0, kr52_0, kr54_0, kr56_0, kr60_3, kr60_4, kr63_0, kr63_1, kr63_2, kr66_0, kr66_1, kr66_2, kr66_3, kr66_4, kr67_0, kr70_0, kr70_1, kr70_2, kr72_1, kr72_2, kr72_3, kr72_4, kr72_5, kr72_6, kr72_7, kl2, kl3, kl4, kl5, kl6, kl8, kl9, kl10, kl11, kl12, kl13, kl14, kl15, kl17, kl18, kl20, kl21, kl23, kl24, kl26, kl27, kl28, kl29, kl30, kl31, kl32, kl33, kl35, kl36, kl38, kl39, kl41, kl42, kl45, kl47, kl49, kl51, kl53, kl55, kl57, kl58, kl59, kl61, kl62, kl64, kl65, kl68, kl69, kl71, kl73, kl74, kl75, kl76]
    refine ⟨_, rfl, kp_ch.wi (S := fun r => r = k ∨ r = k + 1) h1 (Or.inl rfl), ?_⟩
    refine (kp_cD_mk (f := fun q => kp_tw ((kp_cD σ k).1 q) (kt_fi T d q) (kp_of ((kp_cD σ k).1 q) (kt_fi T d q) / 2)) (fun q hq => ?_) ?_ ?_ ?_ ?_ ?_).trans rfl
    · rw [kp_wi_row (by omega), h3 q hq, if_pos hq, kp_cD_p hq]
    · rw [kp_wi_col (by decide), h2]; rfl
    · rw [kp_wi_col (by decide), h2]; rfl
    · rw [kp_wi_same, h2]; rfl
    · rw [kp_wi_col (by decide), h2]
    · rw [kp_wi_col (by decide), h2]
  | succ m ih =>
    intro p hp fuel hf τ h1 h2 h3
    obtain ⟨n, rfl⟩ := kp_fuel (show 0 < fuel by omega)
    show ∃ τ', f_X4_rub_2_s _ 63 k (nI d) (nI p) τ = some τ' ∧ _
    unfold f_X4_rub_2_s
    simp (disch := omega) only [↓reduceIte, kz_lt, Option.bind_some, kz_ix, kz_leT, kz_leF, kz_ltT, kz_ltF, kz_lt0, kz_0le, kz_0ltT, kz_le0F, kz_eq0F, kz_10, kz_00, kz_11, kz_01, nI_clamp, nI_1, nI_add, pk_mul, kn3, kn4, kn5, kn6, kn7, kn8, kn9, kn10, kn16, kn20, kn24, kn30, kn32, kn36, kn40, kn41, kn42, kn48, kn54, kn60, kn61, kn64, kn69, kn70, kn99, kn100, kc0, kc1, kc2, kc3, kc4, kc5, kc6, kc7, kc8, kc9, kc10, kx0, kx1, kx2, kx3, kx4, kx5, kx6, kx7, kx8, kr0_0, kr0_1, kr0_2, kr0_3, kr0_4, kr0_5, kr0_6, kr0_7, kr0_8, kr0_9, kr1_1, kr1_2, kr1_3, kr1_4, kr1_5, kr7_6, kr7_7, kr7_8, kr7_9, kr7_10, kr7_11, kr7_12, kr7_13, kr7_14, kr7_15, kr7_16, kr16_1, kr16_2, kr19_1, kr19_2, kr22_1, kr22_2, kr25_6, kr25_7, kr25_8, kr25_9, kr25_10, kr25_11, kr25_12, kr25_13, kr25_14, kr25_15, kr25_16, kr34_1, kr34_2, kr37_1, kr37_2, kr40_1, kr40_2, kr43_2, kr43_3, kr44_0, kr44_1, kr44_4, kr46_0, kr48_0, kr50_0, kr52_0, kr54_0, kr56_0, kr60_3, kr60_4, kr63_0, kr63_1, kr63_2, kr66_0, kr66_1, kr66_2, kr66_3, kr66_4, kr67_0, kr70_0, kr70_1, kr70_2, kr72_1, kr72_2, kr72_3, kr72_4, kr72_5, kr72_6, kr72_7, kl2, kl3, kl4, kl5, kl6, kl8, kl9, kl10, kl11, kl12, kl13, kl14, kl15, kl17, kl18, kl20, kl21, kl23, kl24, kl26, kl27, kl28, kl29, kl30, kl31, kl32, kl33, kl35, kl36, kl38, kl39, kl41, kl42, kl45, kl47, kl49, kl51, kl53, kl55, kl57, kl58, kl59, kl61, kl62, kl64, kl65, kl68, kl69, kl71, kl73, kl74, kl75, kl76, hk1, hk2, kz_20, h1.1 10 (by omega), h.2.2.1 d hd p (by omega), h3 p (by omega), if_neg (Nat.lt_irrefl p)]
    rw [kp_half (hs p (by omega)) (hT.2.1 d hd p (by omega))]
    refine ih (p + 1) (by omega) n (by omega) _ (kp_ch.wi (S := fun r => r = k ∨ r = k + 1) h1 (Or.inr rfl)) ?_ (fun q hq => ?_)
    · rw [kz_rowf (by omega), h2]
    · by_cases e : q = p
      · rw [e, kp_wi_same, if_pos (by omega)]
      · rw [kp_wi_col e, h3 q hq]
        by_cases e2 : q < p
        · rw [if_pos e2, if_pos (by omega)]
        · rw [if_neg e2, if_neg (by omega)]
theorem kp_rub {T : kp_T} {σ : kf_St} {k d : Nat} (hT : kp_Tok T) (h : kp_CT T σ) (hk : kp_isK k) (hd : d < kt_nd T) (hs : ∀ q, q < 4 → kp_sm (σ.1 (k + 1) q)) : ∃ σ', f_X4_rub 63 k (nI d) σ = some σ' ∧ kp_ch (fun r => r = k ∨ r = k + 1) σ σ' ∧ kp_cD σ' k = kp_rb T (kp_cD σ k) d := kp_rub_loop hT h hk hd hs 4 0 rfl kf_F (kf_F_gt (by decide)) σ kp_ch.rf rfl (fun q _ => by rw [if_neg (Nat.not_lt_zero q)])
/-! rounds that are due -/
def kp_due (T : kp_T) (r dy : Nat) : Bool := decide (kt_fr T r ≤ dy ∧ (dy - kt_fr T r) % kt_ev T r = 0)
def kp_bt (K r : Nat) : Nat := K / 2 ^ r % 2
def kp_cm (T : kp_T) (K r dy : Nat) : Bool := decide (kp_bt K r = 1) && kp_due T r dy
theorem kp_sh10 : ∀ r, r < 10 → ((nI r).toBitVec.smod 32).toNat = r := by decide
theorem kp_bit {K r : Nat} (hK : K < 2 ^ 31) (hr : r < 10) : (nI K >>> (nI r &&& 31)) &&& 1 = nI (kp_bt K r) := by
  have e1 : nI r &&& 31 = nI r := by
    rw [pk_andN (n := r) (by omega) 5 (by decide), Nat.mod_eq_of_lt (by omega)]
  have e2 : K / 2 ^ r < 2 ^ 32 := Nat.lt_of_le_of_lt (Nat.div_le_self _ _) (by omega)
  rw [e1, pk_shrN hK (nI r) r (kp_sh10 r hr), pk_andN e2 1 (by decide)]
  rfl
theorem kp_isDueC {T : kp_T} {σ : kf_St} (hT : kp_Tok T) (h : kp_CT T σ) {r dy : Nat} (hr : r < kt_nr T) (hdy : dy < 2 ^ 30) : f_X10_isDue 7 (nI r) (nI dy) σ = some (if kp_due T r dy then 1 else 0, σ) := by
  have h1 := hT.1.2.2
  obtain ⟨-, -, c3, c4⟩ := h.2.2.2.2.1 r hr
  obtain ⟨-, -, t3, t4, t5⟩ := hT.2.2.2.1 r hr
  unfold f_X10_isDue
  simp (disch := omega) only [↓reduceIte, kz_lt, Option.bind_some, kz_ix, kz_leT, kz_leF, kz_ltT, kz_ltF, kz_lt0, kz_0le, kz_0ltT, kz_le0F, kz_eq0F, kz_10, kz_00, kz_11, kz_01, nI_clamp, nI_1, nI_add, pk_mul, kn2, kn3, kn4, kn5, kn6, kn7, kn8, kn9, kn10, kn16, kn20, kn24, kn30, kn32, kn36, kn40, kn41, kn42, kn48, kn54, kn60, kn61, kn64, kn69, kn70, kn99, kn100, kc0, kc1, kc2, kc3, kc4, kc5, kc6, kc7, kc8, kc9, kc10, kx0, kx1, kx2, kx3, kx4, kx5, kx6, kx7, kx8, kr0_0, kr0_1, kr0_2, kr0_3, kr0_4, kr0_5, kr0_6, kr0_7, kr0_8, kr0_9, kr1_1, kr1_2, kr1_3, kr1_4, kr1_5, kr7_6, kr7_7, kr7_8, kr7_9, kr7_10, kr7_11, kr7_12, kr7_13, kr7_14, kr7_15, kr7_16, kr16_1, kr16_2, kr19_1, kr19_2, kr22_1, kr22_2, kr25_6, kr25_7, kr25_8, kr25_9, kr25_10, kr25_11, kr25_12, kr25_13, kr25_14, kr25_15, kr25_16, kr34_1, kr34_2, kr37_1, kr37_2, kr40_1, kr40_2, kr43_2, kr43_3, kr44_0, kr44_1, kr44_4, kr46_0, kr48_0, kr50_0, kr52_0, kr54_0, kr56_0, kr60_3, kr60_4, kr63_0, kr63_1, kr63_2, kr66_0, kr66_1, kr66_2, kr66_3, kr66_4, kr67_0, kr70_0, kr70_1, kr70_2, kr72_1, kr72_2, kr72_3, kr72_4, kr72_5, kr72_6, kr72_7, kl2, kl3, kl4, kl5, kl6, kl8, kl9, kl10, kl11, kl12, kl13, kl14, kl15, kl17, kl18, kl20, kl21, kl23, kl24, kl26, kl27, kl28, kl29, kl30, kl31, kl32, kl33, kl35, kl36, kl38, kl39, kl41, kl42, kl45, kl47, kl49, kl51, kl53, kl55, kl57, kl58, kl59, kl61, kl62, kl64, kl65, kl68, kl69, kl71, kl73, kl74, kl75, kl76, c3, c4]
  unfold kp_due
  by_cases e : kt_fr T r ≤ dy
  · rw [pk_sub e]
    simp (disch := omega) only [↓reduceIte, kz_lt, Option.bind_some, kz_ix, kz_leT, kz_leF, kz_ltT, kz_ltF, kz_lt0, kz_0le, kz_0ltT, kz_le0F, kz_eq0F, kz_10, kz_00, kz_11, kz_01, nI_clamp, nI_1, nI_add, pk_mul, pk_rem]
    by_cases e2 : (dy - kt_fr T r) % kt_ev T r = 0
    · rw [e2, if_pos (show nI 0 = 0 from rfl), if_pos (decide_eq_true ⟨e, rfl⟩)]
    · have := Nat.mod_lt (dy - kt_fr T r) (show 0 < kt_ev T r by omega)
      rw [if_neg (nI_ne0 (by omega) (by omega)), if_neg (fun x => e2 (of_decide_eq_true x).2)]
  · rw [if_pos (pk_sneg (by omega) (by omega)), if_neg (fun x => e (of_decide_eq_true x).1)]
theorem kp_comes {T : kp_T} {σ : kf_St} (hT : kp_Tok T) (h : kp_CT T σ) {r dy K : Nat} (hr : r < kt_nr T) (hdy : dy < 2 ^ 30) (hK : K < 2 ^ 31) : f_X10_comes 7 (nI r) (nI dy) (nI K) σ = some (if kp_cm T K r dy then 1 else 0, σ) := by
  have h1 := hT.1.2.2
  unfold f_X10_comes kp_cm
  rw [kp_bit hK (by omega)]
  by_cases e : kp_bt K r = 1
  · rw [e, if_pos (show nI 1 = 1 from rfl), kp_isDueC hT h hr hdy, Option.bind_some]
    by_cases e2 : kp_due T r dy = true
    · rw [e2]; rfl
    · rw [Bool.not_eq_true] at e2; rw [e2]; rfl
  · have : kp_bt K r < 2 := Nat.mod_lt _ (by decide)
    rw [show kp_bt K r = 0 by omega, if_neg (show ¬ nI 0 = 1 by decide)]
    rfl
/-! lots -/
def kp_mx (h v : Int32) : Int32 := ((h ^^^ v) * 1103515245 + 12345) ^^^ ((Int32.toUInt32 ((h ^^^ v) * 1103515245 + 12345)) >>> ((Int32.toUInt32 15) &&& Int32.toUInt32 31)).toInt32
def kp_hx (s w : Int32) : Int32 := ((Int32.toUInt32 (kp_mx (kp_mx s 151) w)) >>> ((Int32.toUInt32 1) &&& Int32.toUInt32 31)).toInt32
def kp_lot (n s w : Int32) : Int32 := kp_hx s w - kp_hx s w / n * n
theorem kp_lotC {n s w : Int32} {σ : kf_St} (hn : ¬ n ≤ 0) (hn2 : ¬ n = 0) : f_X10_lot n s w σ = some (kp_lot n s w, σ) := by
  unfold f_X10_lot f_X10_mixed
  simp only [kz_lt, Option.bind_some]
  rw [if_neg hn, if_neg hn2]
  rfl
theorem kp_hx_n (s w : Int32) : ∃ n, n < 2 ^ 31 ∧ kp_hx s w = nI n := by
  have h := pk_ushr (kp_mx (kp_mx s 151) w) 1 1 (by decide)
  refine ⟨(kp_mx (kp_mx s 151) w).toBitVec.toNat / 2 ^ 1, ?_, ?_⟩
  · have := (kp_mx (kp_mx s 151) w).toBitVec.isLt
    omega
  · have e : (kp_hx s w).toBitVec.toNat = (nI ((kp_mx (kp_mx s 151) w).toBitVec.toNat / 2 ^ 1)).toBitVec.toNat := by
      have := (kp_mx (kp_mx s 151) w).toBitVec.isLt
      rw [pk_tn (by omega)]
      exact h
    exact Int32.toBitVec_inj.mp (BitVec.eq_of_toNat_eq e)
theorem kp_lot_n {n : Nat} (h0 : 0 < n) (h : n < 2 ^ 31) (s w : Int32) : ∃ j, j < n ∧ kp_lot (nI n) s w = nI j := by
  obtain ⟨x, hx, e⟩ := kp_hx_n s w
  unfold kp_lot
  rw [e, pk_rem hx h0 h]
  exact ⟨_, Nat.mod_lt _ h0, rfl⟩
def kp_bl (T : kp_T) (s : Int32) (dy : Nat) : Bool := decide (kp_lot 100 s (16 * nI dy) < nI (kt_wi T))
theorem kp_hasWind {T : kp_T} {σ : kf_St} (h : kp_CT T σ) (s : Int32) (dy : Nat) : f_X10_hasWind 7 s (nI dy) σ = some (if kp_bl T s dy then 1 else 0, σ) := by
  unfold f_X10_hasWind kp_bl
  rw [kp_lotC (by decide) (by decide), Option.bind_some]
  dsimp only
  rw [h.2.1.1]
  by_cases e : kp_lot 100 s (16 * nI dy) < nI (kt_wi T)
  · rw [if_neg (Int32.not_le.mpr e), if_pos (decide_eq_true e)]
  · rw [if_pos (Int32.not_lt.mp e), if_neg (fun x => e (of_decide_eq_true x))]
/-! a day -/
def kp_dec (v : Int32) : Int32 := if v ≤ 0 then v else v - 1
def kp_wnd (T : kp_T) (ws : Int32) (dy d : Nat) (D : kp_D) : kp_D := if ws = -1 then D else if kp_bl T ws dy then (kd_cut (fun p => if nI p = kp_lot 4 ws (16 * nI dy + 1 + nI d) then kp_dec (D.1 p) else D.1 p), D.2) else D
def kp_idl (i t : Int32) : Int32 := if t = 1 then 0 else if i + 1 < 999 then i + 1 else 999
def kp_id (D : kp_D) : kp_D := (D.1, D.2.1, kp_idl D.2.2.1 D.2.2.2.2.2, D.2.2.2.1, D.2.2.2.2.1, 0)
def kp_rn (T : kp_T) (d K dy : Nat) : Nat → kp_D → kp_D
  | 0, D => D
  | r + 1, D => if kt_rd T r = d ∧ kp_cm T K r dy = true then kp_lf T (kp_rn T d K dy r D) (kt_rc T r) (nI dy) else kp_rn T d K dy r D
def kp_wr (T : kp_T) (d dy : Nat) (D : kp_D) : kp_D := kp_mv (kt_lw T) D (kt_fi T d) d (nI dy)
def kp_dy (T : kp_T) (d K : Nat) (ws : Int32) (dy : Nat) (D : kp_D) : kp_D := kp_id (kp_wr T d dy (kp_wnd T ws dy d (kp_rn T d K dy (kt_nr T) D)))
theorem kp_dec_sm {v : Int32} (h : kp_sm v) : kp_sm (kp_dec v) := by
  obtain ⟨a, ha, rfl⟩ := h
  unfold kp_dec
  by_cases e : nI a ≤ 0
  · rw [if_pos e]; exact ⟨a, ha, rfl⟩
  · rw [if_neg e]
    obtain ⟨b, rfl⟩ : ∃ b, a = b + 1 := by
      cases a with
      | zero => exact absurd (by decide) e
      | succ b => exact ⟨b, rfl⟩
    rw [nI_pred]
    exact ⟨b, by omega, rfl⟩
theorem kp_decC {v : Int32} (h : kp_sm v) : (if 0 < v - 1 then v - 1 else 0) = kp_dec v := by
  obtain ⟨a, ha, rfl⟩ := h
  unfold kp_dec
  cases a with
  | zero => rfl
  | succ b =>
    rw [nI_pred, if_neg (nI_nle (by omega) (by omega))]
    cases b with
    | zero => rfl
    | succ c => rw [if_pos (of_eq_true (kz_0ltT (a := c + 1) (by omega) (by omega)))]
theorem kp_wnd_ok {T : kp_T} {ws : Int32} {dy d : Nat} {D : kp_D} (hD : kp_Dok D) : kp_Dok (kp_wnd T ws dy d D) := by
  unfold kp_wnd
  by_cases h1 : ws = -1
  · rw [if_pos h1]; exact hD
  · rw [if_neg h1]
    by_cases h2 : kp_bl T ws dy = true
    · rw [if_pos h2]
      refine ⟨fun p hp => ?_, hD.2⟩
      show kp_sm (kd_cut (fun p => if nI p = kp_lot 4 ws (16 * nI dy + 1 + nI d) then kp_dec (D.1 p) else D.1 p) p)
      rw [kd_cut_at hp]
      by_cases h3 : nI p = kp_lot 4 ws (16 * nI dy + 1 + nI d)
      · rw [if_pos h3]; exact kp_dec_sm (hD.1 p hp)
      · rw [if_neg h3]; exact hD.1 p hp
    · rw [if_neg h2]; exact hD
theorem kp_idl_n {i : Nat} {t : Int32} (hi : i ≤ 999) : ∃ n, n ≤ 999 ∧ kp_idl (nI i) t = nI n := by
  unfold kp_idl
  by_cases h : t = 1
  · rw [if_pos h]; exact ⟨0, by decide, rfl⟩
  · rw [if_neg h, nI_1]
    by_cases h2 : nI (i + 1) < 999
    · rw [if_pos h2]
      have := (nI_ltI (a := i + 1) (b := 999) (by omega) (by omega)).mp h2
      exact ⟨i + 1, by omega, rfl⟩
    · rw [if_neg h2]; exact ⟨999, by decide, rfl⟩
theorem kp_id_ok {D : kp_D} (hD : kp_Dok D) : kp_Dok (kp_id D) := by
  obtain ⟨h1, ⟨i, hi, ei⟩, h3, h4⟩ := hD
  refine ⟨h1, ?_, h3, Or.inl rfl⟩
  show ∃ n, n ≤ 999 ∧ kp_idl D.2.2.1 _ = nI n
  rw [ei]
  exact kp_idl_n hi
theorem kp_wr_ok {T : kp_T} (hT : kp_Tok T) {d dy : Nat} {D : kp_D} (hD : kp_Dok D) (hd : d < kt_nd T) : kp_Dok (kp_wr T d dy D) := ⟨kp_mv_sm hD.1 (hT.2.1 d hd), hD.2⟩
theorem kp_rn_ok {T : kp_T} (hT : kp_Tok T) {d K dy : Nat} {D : kp_D} (hD : kp_Dok D) : ∀ r, r ≤ kt_nr T → kp_Dok (kp_rn T d K dy r D)
  | 0, _ => hD
  | r + 1, hr => by
    have ih := kp_rn_ok hT (d := d) (K := K) (dy := dy) hD r (by omega)
    show kp_Dok (if kt_rd T r = d ∧ kp_cm T K r dy = true then kp_lf T (kp_rn T d K dy r D) (kt_rc T r) (nI dy) else kp_rn T d K dy r D)
    by_cases h : kt_rd T r = d ∧ kp_cm T K r dy = true
    · rw [if_pos h]; exact kp_lf_ok hT ih (hT.2.2.2.1 r (by omega)).1 _
    · rw [if_neg h]; exact ih
theorem kp_dy_ok {T : kp_T} (hT : kp_Tok T) {d K dy : Nat} {ws : Int32} {D : kp_D} (hD : kp_Dok D) (hd : d < kt_nd T) : kp_Dok (kp_dy T d K ws dy D) := kp_id_ok (kp_wr_ok hT (kp_wnd_ok (kp_rn_ok hT hD _ (Nat.le_refl _))) hd)
