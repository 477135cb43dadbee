/-! ===== pure: the fewest lifts ===== -/
/-- the first node of a level -/
def kp_os (c : Nat) : Nat → Nat
  | 0 => 0
  | n + 1 => c * kp_os c n + 1
theorem kp_os_s (c : Nat) : ∀ n, kp_os c (n + 1) = kp_os c n + c ^ n
  | 0 => by show c * 0 + 1 = 0 + c ^ 0; rw [Nat.mul_zero, Nat.pow_zero]
  | n + 1 => by
    have e := kp_os_s c n
    have e2 : kp_os c (n + 1) = c * kp_os c n + 1 := rfl
    have e3 : c * kp_os c (n + 1) = c * kp_os c n + c * c ^ n := by rw [e, Nat.mul_add]
    have e4 : c ^ (n + 1) = c * c ^ n := by rw [Nat.pow_succ, Nat.mul_comm]
    show c * kp_os c (n + 1) + 1 = kp_os c (n + 1) + c ^ (n + 1)
    rw [e3, e4, e2]
    omega
theorem kp_os_all : ∀ c, c ≤ 5 → ∀ n, n ≤ 5 → kp_os c n ≤ 781 ∧ c ^ n ≤ 3125 ∧ (n ≤ 4 → kp_os c n ≤ 156 ∧ c ^ n ≤ 625) := by decide +kernel
theorem kp_os_at {c : Nat} : ∀ m v, v < kp_os c m → ∃ n w, n < m ∧ w < c ^ n ∧ v = kp_os c n + w
  | 0, v, h => absurd h (Nat.not_lt_zero v)
  | m + 1, v, h => by
    by_cases b : v < kp_os c m
    · obtain ⟨n, w, h1, h2, h3⟩ := kp_os_at m v b
      exact ⟨n, w, by omega, h2, h3⟩
    · rw [kp_os_s] at h
      exact ⟨m, v - kp_os c m, by omega, by omega, by omega⟩
theorem kp_os_mono {c : Nat} (hc : 0 < c) : ∀ n m, n < m → kp_os c n < kp_os c m
  | n, 0, h => absurd h (Nat.not_lt_zero n)
  | n, m + 1, h => by
    rw [kp_os_s]
    have := Nat.pow_pos (n := m) hc
    by_cases b : n = m
    · rw [b]; omega
    · have := kp_os_mono hc n m (by omega)
      omega
/-- the way w of n lifts -/
def kp_wq (T : kp_T) (D : kp_D) (dy : Int32) : Nat → Nat → kp_D
  | 0, _ => D
  | n + 1, w => kp_lf T (kp_wq T D dy n (w / kt_nc T)) (w % kt_nc T) dy
theorem kp_wq_s (T : kp_T) (D : kp_D) (dy : Int32) (n w : Nat) : kp_wq T D dy (n + 1) w = kp_lf T (kp_wq T D dy n (w / kt_nc T)) (w % kt_nc T) dy := rfl
theorem kp_wq_ok {T : kp_T} (hT : kp_Tok T) {D : kp_D} {dy : Int32} (hD : kp_Dok D) (h0 : 0 < kt_nc T) : ∀ n w, kp_Dok (kp_wq T D dy n w)
  | 0, _ => hD
  | n + 1, w => kp_lf_ok hT (kp_wq_ok hT hD h0 n _) (Nat.mod_lt _ h0) dy
theorem kp_wq_f {T : kp_T} {D : kp_D} {dy : Int32} (hc : kd_cut D.1 = D.1) : ∀ n w, kd_cut (kp_wq T D dy n w).1 = (kp_wq T D dy n w).1 ∧ (kp_wq T D dy n w).2.1 = D.2.1 + nI n ∧ (kp_wq T D dy n w).2.2.1 = D.2.2.1 ∧ (kp_wq T D dy n w).2.2.2.1 = D.2.2.2.1
  | 0, _ => ⟨hc, (Int32.add_zero _).symm, rfl, rfl⟩
  | n + 1, w => by
    obtain ⟨a, b, c, d⟩ := kp_wq_f hc n (w / kt_nc T)
    refine ⟨kd_cut_cut _, ?_, c, d⟩
    show (kp_wq T D dy n (w / kt_nc T)).2.1 + 1 = _
    rw [b, ← nI_1, Int32.add_assoc]
theorem kp_lf_c {T : kp_T} {D D' : kp_D} {c : Nat} {dy : Int32} (h1 : D.1 = D'.1) (h2 : D.2.1 = D'.2.1) (h3 : D.2.2.1 = D'.2.2.1) (h4 : D.2.2.2.1 = D'.2.2.2.1) : (kp_lf T D c dy).1 = (kp_lf T D' c dy).1 := by
  obtain ⟨a, b, c1, d, e, f⟩ := D
  obtain ⟨a', b', c', d', e', f'⟩ := D'
  have h1 : a = a' := h1
  have h2 : b = b' := h2
  have h3 : c1 = c' := h3
  have h4 : d = d' := h4
  subst h1 h2 h3 h4
  rfl
theorem kp_least {P : Nat → Prop} : ∀ N, (∀ v, v < N → ¬ P v) ∨ ∃ v, v < N ∧ P v ∧ ∀ u, u < v → ¬ P u
  | 0 => Or.inl (fun v h => absurd h (Nat.not_lt_zero v))
  | N + 1 => by
    rcases kp_least N with h | ⟨v, h1, h2⟩
    · by_cases b : P N
      · exact Or.inr ⟨N, Nat.lt_succ_self N, b, h⟩
      · refine Or.inl (fun v hv => ?_)
        by_cases e : v = N
        · rw [e]; exact b
        · exact h v (by omega)
    · exact Or.inr ⟨v, by omega, h2⟩
/-- node v is known by c -/
def kp_G (A : kp_A) (d c : Nat) (v : Nat) : Prop := ∃ n w, n ≤ 4 ∧ w < kt_nc (ka_T A) ^ n ∧ v = kp_os (kt_nc (ka_T A)) n + w ∧ kp_kn (ka_T A) (kp_wq (ka_T A) ((ka_S A).1 d) (nI (ka_S A).2.2.2) n w).1 = nI c
theorem kp_os_u {c n m w u : Nat} (hc : 0 < c) (h1 : w < c ^ n) (h2 : u < c ^ m) (e : kp_os c n + w = kp_os c m + u) : n = m ∧ w = u := by
  have a := kp_os_s c n
  have b := kp_os_s c m
  have : n = m := by
    rcases Nat.lt_trichotomy n m with h | h | h
    · have := kp_os_mono hc n m h
      by_cases q : n + 1 = m
      · subst q; omega
      · have := kp_os_mono hc (n + 1) m (by omega)
        omega
    · exact h
    · have := kp_os_mono hc m n h
      by_cases q : m + 1 = n
      · subst q; omega
      · have := kp_os_mono hc (m + 1) n (by omega)
        omega
  subst this
  exact ⟨rfl, by omega⟩
theorem kp_G_iff {A : kp_A} {d c n w : Nat} (h0 : 0 < kt_nc (ka_T A)) (hn : n ≤ 4) (hw : w < kt_nc (ka_T A) ^ n) : kp_G A d c (kp_os (kt_nc (ka_T A)) n + w) ↔ kp_kn (ka_T A) (kp_wq (ka_T A) ((ka_S A).1 d) (nI (ka_S A).2.2.2) n w).1 = nI c := by
  constructor
  · rintro ⟨m, u, h1, h2, h3, h4⟩
    obtain ⟨rfl, rfl⟩ := kp_os_u h0 hw h2 h3
    exact h4
  · intro h
    exact ⟨n, w, hn, hw, rfl, h⟩
/-! the class: levels -/
theorem kp_par {c n w : Nat} (hc : 0 < c) : (kp_os c (n + 1) + w - 1) / c = kp_os c n + w / c ∧ (kp_os c (n + 1) + w - 1) % c = w % c := by
  have e : kp_os c (n + 1) + w - 1 = c * kp_os c n + w := by show c * kp_os c n + 1 + w - 1 = _; omega
  rw [e]
  exact ⟨Nat.mul_add_div hc _ _, Nat.mul_add_mod _ _ _⟩
theorem kp_pdiv {c n w : Nat} (h : w < c ^ (n + 1)) : w / c < c ^ n := by
  rw [Nat.pow_succ, Nat.mul_comm] at h
  exact Nat.div_lt_of_lt_mul h
theorem kC_lev4 {σ : kf_St} {c : Nat} (hc0 : 0 < c) (hc : c ≤ 5) (e : σ.1 7 1 = nI c) : ∀ n m w, n + m ≤ 4 → w < c ^ n → ∀ f, n < f → f_X0_levelOf_4 f 66 (nI m) (nI (kp_os c n + w)) σ = some (nI (n + m), σ)
  | 0, m, w, hm, hw, f, hf => by
    obtain ⟨g, rfl⟩ := kp_fuel (show 0 < f by omega)
    have hw' : w = 0 := by have : w < 1 := hw; omega
    subst hw'
    show f_X0_levelOf_4_s _ 66 (nI m) (nI 0) σ = _
    unfold f_X0_levelOf_4_s
    rw [if_pos (by decide), Nat.zero_add]
  | n + 1, m, w, hm, hw, f, hf => by
    obtain ⟨g, rfl⟩ := kp_fuel (show 0 < f by omega)
    have hb := (kp_os_all c hc (n + 1) (by omega))
    have hp := kp_par (n := n) (w := w) hc0
    have h1 : 1 ≤ kp_os c (n + 1) := by show 1 ≤ c * kp_os c n + 1; omega
    have ih := kC_lev4 hc0 hc e n (m + 1) (w / c) (by omega) (kp_pdiv hw) g (by omega)
    have e1 : nI (kp_os c (n + 1) + w) - 1 = nI (kp_os c (n + 1) + w - 1) := pk_sub (b := 1) (by omega)
    have e2 : nI (kp_os c (n + 1) + w - 1) / nI c = nI (kp_os c n + w / c) := by rw [pk_div (by omega) hc0 (by omega), hp.1]
    show f_X0_levelOf_4_s _ 66 (nI m) (nI (kp_os c (n + 1) + w)) σ = _
    unfold f_X0_levelOf_4_s
    simp (disch := omega) only [↓reduceIte, kz_lt, Option.bind_some, kz_ix, kz_leT, kz_leF, kz_ltT, kz_ltF, kz_lt0, kz_0le, kz_0ltT, kz_le0F, kz_eq0F, kz_10, kz_00, kz_11, kz_01, nI_clamp, nI_1, nI_add, pk_mul, kn2, kn3, kn4, kn5, kn6, kn7, kn8, kn9, kn10, kn16, kn20, kn24, kn30, kn32, kn36, kn40, kn41, kn42, kn48, kn54, kn60, kn61, kn64, kn69, kn70, kn99, kn100, kc0, kc1, kc2, kc3, kc4, kc5, kc6, kc7, kc8, kc9, kc10, kx0, kx1, kx2, kx3, kx4, kx5, kx6, kx7, kx8, kr0_0, kr0_1, kr0_2, kr0_3, kr0_4, kr0_5, kr0_6, kr0_7, kr0_8, kr0_9, kr1_1, kr1_2, kr1_3, kr1_4, kr1_5, kr7_6, kr7_7, kr7_8, kr7_9, kr7_10, kr7_11, kr7_12, kr7_13, kr7_14, kr7_15, kr7_16, kr16_1, kr16_2, kr19_1, kr19_2, kr22_1, kr22_2, kr25_6, kr25_7, kr25_8, kr25_9, kr25_10, kr25_11, kr25_12, kr25_13, kr25_14, kr25_15, kr25_16, kr34_1, kr34_2, kr37_1, kr37_2, kr40_1, kr40_2, kr43_2, kr43_3, kr44_0, kr44_1, kr44_4, kr46_0, kr48_0, kr50_0, kr52_0, kr54_0, kr56_0, kr60_3, kr60_4, kr63_0, kr63_1, kr63_2, kr66_0, kr66_1, kr66_2, kr66_3, kr66_4, kr67_0, kr70_0, kr70_1, kr70_2, kr72_1, kr72_2, kr72_3, kr72_4, kr72_5, kr72_6, kr72_7, kl2, kl3, kl4, kl5, kl6, kl8, kl9, kl10, kl11, kl12, kl13, kl14, kl15, kl17, kl18, kl20, kl21, kl23, kl24, kl26, kl27, kl28, kl29, kl30, kl31, kl32, kl33, kl35, kl36, kl38, kl39, kl41, kl42, kl45, kl47, kl49, kl51, kl53, kl55, kl57, kl58, kl59, kl61, kl62, kl64, kl65, kl68, kl69, kl71, kl73, kl74, kl75, kl76, e, e1, e2]
    rw [ih, show n + (m + 1) = n + 1 + m by omega]
theorem kC_lev {σ : kf_St} {c n w : Nat} (hc0 : 0 < c) (hc : c ≤ 5) (e : σ.1 7 1 = nI c) (hn : n ≤ 4) (hw : w < c ^ n) : f_X0_levelOf 66 (nI (kp_os c n + w)) σ = some (nI n, σ) := kC_lev4 hc0 hc e n 0 w (by omega) hw kf_F (kf_F_gt (by omega))
theorem kC_abv {σ : kf_St} {c : Nat} (hc : c ≤ 5) (e : σ.1 7 1 = nI c) : f_X0_nodesAbove 66 5 σ = some (nI (kp_os c 5), σ) := by
  unfold f_X0_nodesAbove
  refine kp_run (n := 5) (fun i f => f_X0_nodesAbove_7 f 66 5 (nI (kp_os c i)) (nI (c ^ i)) (nI i) σ = some (nI (kp_os c 5), σ)) (by decide) (fun f => ?_) (fun i hi f ih => ?_)
  · show f_X0_nodesAbove_7_s _ 66 5 _ _ (nI 5) σ = _
    unfold f_X0_nodesAbove_7_s
    exact if_pos (by decide)
  · show f_X0_nodesAbove_7_s _ 66 5 _ _ (nI i) σ = _
    unfold f_X0_nodesAbove_7_s
    simp (disch := omega) only [↓reduceIte, kz_lt, Option.bind_some, kz_ix, kz_leT, kz_leF, kz_ltT, kz_ltF, kz_lt0, kz_0le, kz_0ltT, kz_le0F, kz_eq0F, kz_10, kz_00, kz_11, kz_01, nI_clamp, nI_1, nI_add, pk_mul, kn2, kn3, kn4, kn5, kn6, kn7, kn8, kn9, kn10, kn16, kn20, kn24, kn30, kn32, kn36, kn40, kn41, kn42, kn48, kn54, kn60, kn61, kn64, kn69, kn70, kn99, kn100, kc0, kc1, kc2, kc3, kc4, kc5, kc6, kc7, kc8, kc9, kc10, kx0, kx1, kx2, kx3, kx4, kx5, kx6, kx7, kx8, kr0_0, kr0_1, kr0_2, kr0_3, kr0_4, kr0_5, kr0_6, kr0_7, kr0_8, kr0_9, kr1_1, kr1_2, kr1_3, kr1_4, kr1_5, kr7_6, kr7_7, kr7_8, kr7_9, kr7_10, kr7_11, kr7_12, kr7_13, kr7_14, kr7_15, kr7_16, kr16_1, kr16_2, kr19_1, kr19_2, kr22_1, kr22_2, kr25_6, kr25_7, kr25_8, kr25_9, kr25_10, kr25_11, kr25_12, kr25_13, kr25_14, kr25_15, kr25_16, kr34_1, kr34_2, kr37_1, kr37_2, kr40_1, kr40_2, kr43_2, kr43_3, kr44_0, kr44_1, kr44_4, kr46_0, kr48_0, kr50_0, kr52_0, kr54_0, kr56_0, kr60_3, kr60_4, kr63_0, kr63_1, kr63_2, kr66_0, kr66_1, kr66_2, kr66_3, kr66_4, kr67_0, kr70_0, kr70_1, kr70_2, kr72_1, kr72_2, kr72_3, kr72_4, kr72_5, kr72_6, kr72_7, kl2, kl3, kl4, kl5, kl6, kl8, kl9, kl10, kl11, kl12, kl13, kl14, kl15, kl17, kl18, kl20, kl21, kl23, kl24, kl26, kl27, kl28, kl29, kl30, kl31, kl32, kl33, kl35, kl36, kl38, kl39, kl41, kl42, kl45, kl47, kl49, kl51, kl53, kl55, kl57, kl58, kl59, kl61, kl62, kl64, kl65, kl68, kl69, kl71, kl73, kl74, kl75, kl76, e]
    rw [kp_os_s, Nat.pow_succ] at ih
    exact ih
theorem kC_cop {σ : kf_St} {c : Nat} (hc0 : 0 < c) (hc : c ≤ 5) (e : σ.1 7 1 = nI c) {n w i : Nat} (hi : i < n) (hn : n ≤ 4) (hw : w < c ^ n) : f_X0_callerOnPath 66 (nI (kp_os c n + w)) (nI i) σ = some (nI (w / c ^ (n - 1 - i) % c), σ) := by
  have e1 : nI n - 1 = nI (n - 1) := pk_sub (b := 1) (by omega)
  have e2 : nI (n - 1) - nI i = nI (n - 1 - i) := pk_sub (by omega)
  unfold f_X0_callerOnPath
  simp (disch := omega) only [↓reduceIte, kz_lt, Option.bind_some, kz_ix, kz_leT, kz_leF, kz_ltT, kz_ltF, kz_lt0, kz_0le, kz_0ltT, kz_le0F, kz_eq0F, kz_10, kz_00, kz_11, kz_01, nI_clamp, nI_1, nI_add, pk_mul, kc0, kc1, kc2, kc3, kc4, kc5, kc6, kc7, kc8, kc9, kc10, kx0, kx1, kx2, kx3, kx4, kx5, kx6, kx7, kx8, kr0_0, kr0_1, kr0_2, kr0_3, kr0_4, kr0_5, kr0_6, kr0_7, kr0_8, kr0_9, kr1_1, kr1_2, kr1_3, kr1_4, kr1_5, kr7_6, kr7_7, kr7_8, kr7_9, kr7_10, kr7_11, kr7_12, kr7_13, kr7_14, kr7_15, kr7_16, kr16_1, kr16_2, kr19_1, kr19_2, kr22_1, kr22_2, kr25_6, kr25_7, kr25_8, kr25_9, kr25_10, kr25_11, kr25_12, kr25_13, kr25_14, kr25_15, kr25_16, kr34_1, kr34_2, kr37_1, kr37_2, kr40_1, kr40_2, kr43_2, kr43_3, kr44_0, kr44_1, kr44_4, kr46_0, kr48_0, kr50_0, kr52_0, kr54_0, kr56_0, kr60_3, kr60_4, kr63_0, kr63_1, kr63_2, kr66_0, kr66_1, kr66_2, kr66_3, kr66_4, kr67_0, kr70_0, kr70_1, kr70_2, kr72_1, kr72_2, kr72_3, kr72_4, kr72_5, kr72_6, kr72_7, kl2, kl3, kl4, kl5, kl6, kl8, kl9, kl10, kl11, kl12, kl13, kl14, kl15, kl17, kl18, kl20, kl21, kl23, kl24, kl26, kl27, kl28, kl29, kl30, kl31, kl32, kl33, kl35, kl36, kl38, kl39, kl41, kl42, kl45, kl47, kl49, kl51, kl53, kl55, kl57, kl58, kl59, kl61, kl62, kl64, kl65, kl68, kl69, kl71, kl73, kl74, kl75, kl76, kC_lev hc0 hc e hn hw, e1, e2, e, kz_1le]
  have main : ∀ (u : Nat), u ≤ n - 1 - i → ∀ f, n - 1 - i - u < f → f_X0_callerOnPath_33 f 66 (nI (n - 1 - i)) (nI (kp_os c (n - u) + w / c ^ u)) (nI u) σ = some (nI (w / c ^ (n - 1 - i) % c), σ) := by
    intro u hu f hf
    obtain ⟨m, em⟩ : ∃ m, n - 1 - i - u = m := ⟨_, rfl⟩
    induction m generalizing u f with
    | zero =>
      obtain ⟨g, rfl⟩ := kp_fuel (show 0 < f by omega)
      obtain rfl : u = n - 1 - i := by omega
      obtain ⟨q, hq⟩ : ∃ q, n - (n - 1 - i) = q + 1 := ⟨n - (n - 1 - i) - 1, by omega⟩
      have hp := kp_par (n := q) (w := w / c ^ (n - 1 - i)) hc0
      have h1 : 1 ≤ kp_os c (q + 1) := by show 1 ≤ c * kp_os c q + 1; omega
      have hb := kp_os_all c hc (q + 1) (by omega)
      have hw2 : w / c ^ (n - 1 - i) ≤ w := Nat.div_le_self _ _
      have hwb := (kp_os_all c hc n (by omega)).2.1
      rw [hq]
      generalize w / c ^ (n - 1 - i) = x at *
      have e3 : nI (kp_os c (q + 1) + x) - 1 = nI (kp_os c (q + 1) + x - 1) := pk_sub (b := 1) (by omega)
      have e4 : nI (kp_os c (q + 1) + x - 1) - nI (kp_os c (q + 1) + x - 1) / nI c * nI c = nI (x % c) := by rw [pk_rem (by omega) hc0 (by omega), hp.2]
      show f_X0_callerOnPath_33_s _ 66 (nI (n - 1 - i)) _ (nI (n - 1 - i)) σ = _
      unfold f_X0_callerOnPath_33_s
      rw [if_pos (nI_le (Nat.le_refl _) (by omega)), if_neg (nI_nle (by omega) (by omega)), kr66_0, e, if_neg (nI_ne0 hc0 (by omega)), e3, e4]
    | succ m ih =>
      obtain ⟨g, rfl⟩ := kp_fuel (show 0 < f by omega)
      obtain ⟨q, hq⟩ : ∃ q, n - u = q + 1 := ⟨n - u - 1, by omega⟩
      have hp := kp_par (n := q) (w := w / c ^ u) hc0
      have h1 : 1 ≤ kp_os c (q + 1) := by show 1 ≤ c * kp_os c q + 1; omega
      have hb := kp_os_all c hc (q + 1) (by omega)
      have hw2 : w / c ^ u ≤ w := Nat.div_le_self _ _
      have hwb := (kp_os_all c hc n (by omega)).2.1
      have ihn := ih (u + 1) (by omega) g (by omega) (by omega)
      rw [show n - (u + 1) = q by omega, Nat.pow_succ, ← Nat.div_div_eq_div_mul] at ihn
      rw [hq]
      generalize w / c ^ u = x at *
      have e3 : nI (kp_os c (q + 1) + x) - 1 = nI (kp_os c (q + 1) + x - 1) := pk_sub (b := 1) (by omega)
      have e4 : nI (kp_os c (q + 1) + x - 1) / nI c = nI (kp_os c q + x / c) := by rw [pk_div (by omega) hc0 (by omega), hp.1]
      show f_X0_callerOnPath_33_s _ 66 (nI (n - 1 - i)) _ (nI u) σ = _
      unfold f_X0_callerOnPath_33_s
      rw [if_neg (nI_ge (by omega) (by omega)), kr66_0, e, if_neg (nI_ne0 hc0 (by omega)), e3, e4]
      simp only [kf_lt]
      rw [nI_1]
      exact ihn
  have := main 0 (by omega) kf_F (kf_F_gt (by omega))
  rw [Nat.sub_zero, Nat.pow_zero, Nat.div_one] at this
  exact this
/-! the class: the tree -/
theorem kC_lf69 {A : kp_A} {k : Nat} (hA : kp_Aok A k) {τ τ' : kf_St} (h : kp_Cr A τ) {c : Nat} {dy : Int32} {D : kp_D} (hc : c < kt_nc (ka_T A)) (e : kp_cD τ 67 = D) (hD : kp_Dok D) (he : f_X4_liftBy 63 67 (nI c) dy τ = some τ') : τ'.1 69 = τ.1 69 := by
  have f := (kp_cD_f e).1
  obtain ⟨τ2, a, b, c'⟩ := kp_liftBy (dy := dy) hA.1 h.1 kp_isK_t hc (fun q hq => by rw [f q hq]; exact hD.1 q hq)
  rw [a] at he
  cases he
  exact b.1 69 (by decide)
def kL_i (A : kp_A) (d v : Nat) (τ : kf_St) : Prop := (∀ n w, n ≤ 3 → w < kt_nc (ka_T A) ^ n → kp_os (kt_nc (ka_T A)) n + w < v → ∀ p, p < 4 → τ.1 69 (4 * (kp_os (kt_nc (ka_T A)) n + w) + p) = (kp_wq (ka_T A) ((ka_S A).1 d) (nI (ka_S A).2.2.2) n w).1 p) ∧ ∃ D, kp_cD τ 67 = D ∧ kp_Dok D ∧ D.2.2.1 = ((ka_S A).1 d).2.2.1 ∧ D.2.2.2.1 = ((ka_S A).1 d).2.2.2.1
theorem kC_nst {A : kp_A} {k : Nat} (hA : kp_Aok A k) {σ : kf_St} (h : kp_Cr A σ) {d c : Nat} (hd : d < kt_nd (ka_T A)) (hc : c < kt_nc (ka_T A)) {n w v f : Nat} (hn : n ≤ 3) (hw : w < kt_nc (ka_T A) ^ (n + 1)) (hv : v = kp_os (kt_nc (ka_T A)) (n + 1) + w) {τ : kf_St} (cc : kp_ch kp_xC σ τ) (hi : kL_i A d v τ) : (kp_G A d c v → ∃ τ', f_X0_nodeKnownBy_86 (f + 1) 66 (nI d) (nI c) (nI (kt_nc (ka_T A))) (nI (kp_os (kt_nc (ka_T A)) 5)) (nI v) τ = some (nI v, τ') ∧ kp_ch kp_xC σ τ') ∧ (¬ kp_G A d c v → ∃ τ', f_X0_nodeKnownBy_86 (f + 1) 66 (nI d) (nI c) (nI (kt_nc (ka_T A))) (nI (kp_os (kt_nc (ka_T A)) 5)) (nI v) τ = f_X0_nodeKnownBy_86 f 66 (nI d) (nI c) (nI (kt_nc (ka_T A))) (nI (kp_os (kt_nc (ka_T A)) 5)) (nI (v + 1)) τ' ∧ kp_ch kp_xC σ τ' ∧ kL_i A d (v + 1) τ') := by
  have h6 := hA.1.1.1
  have h5 := hA.1.1.2.1
  have h0 : 0 < kt_nc (ka_T A) := by omega
  have hG := kp_G_iff (A := A) (d := d) (c := c) h0 (show n + 1 ≤ 4 by omega) hw
  rw [← hv] at hG
  unfold kL_i at hi
  generalize hT : kt_nc (ka_T A) = nc at *
  obtain ⟨hi1, D, hD1, hD2, hD3, hD4⟩ := hi
  have hp := kp_par (n := n) (w := w) h0
  rw [← hv] at hp
  have b5 := kp_os_all nc h5 5 (by omega)
  have bn := kp_os_all nc h5 n (by omega)
  have bn1 := kp_os_all nc h5 (n + 1) (by omega)
  have h1 : 1 ≤ kp_os nc (n + 1) := by show 1 ≤ nc * kp_os nc n + 1; omega
  have hlt : v < kp_os nc 5 := by
    have := kp_os_s nc (n + 1)
    by_cases q : n + 2 = 5
    · have : kp_os nc (n + 1 + 1) = kp_os nc 5 := by rw [show n + 1 + 1 = 5 by omega]
      omega
    · have := kp_os_mono h0 (n + 1 + 1) 5 (by omega)
      omega
  have hwd := kp_pdiv hw
  have hcut := kp_cD_cut' (h.2.1.1 d hd)
  have q := kp_wq_f (T := ka_T A) (dy := nI (ka_S A).2.2.2) hcut n (w / nc)
  have qok := kp_wq_ok hA.1 (dy := nI (ka_S A).2.2.2) (hA.2.1.1 d hd) (by rw [hT]; exact h0) n (w / nc)
  have os4 : kp_os nc n + w / nc < 156 := by
    have := kp_os_s nc n
    have := (kp_os_all nc h5 (n + 1) (by omega)).2.2 (by omega)
    omega
  have h' := h.ch hA cc
  -- the parent's face comes in
  have c5 : kp_ch kp_xC σ (kf_ci τ 69 68 (4 * (kp_os nc n + w / nc)) 0 4) := kp_ch.ci (S := kp_xC) cc (by unfold kp_xC; omega)
  have h5' := h.ch hA c5
  have c8 : kp_ch kp_xC σ (kf_wi (kf_ci τ 69 68 (4 * (kp_os nc n + w / nc)) 0 4) 67 1 (((ka_S A).1 d).2.1 + nI n)) := kp_ch.wi (S := kp_xC) c5 (by unfold kp_xC; omega)
  have h8 := h.ch hA c8
  obtain ⟨f0, f1, f2, f3, f4, f5⟩ := kp_cD_f hD1
  have hv0 : kp_os nc n + w / nc < v := by
    have := Nat.div_le_self w nc
    have := kp_os_mono h0 n (n + 1) (by omega)
    omega
  have e8 : kp_cD (kf_wi (kf_ci τ 69 68 (4 * (kp_os nc n + w / nc)) 0 4) 67 1 (((ka_S A).1 d).2.1 + nI n)) 67 = ((kp_wq (ka_T A) ((ka_S A).1 d) (nI (ka_S A).2.2.2) n (w / nc)).1, ((ka_S A).1 d).2.1 + nI n, ((ka_S A).1 d).2.2.1, ((ka_S A).1 d).2.2.2.1, D.2.2.2.2.1, D.2.2.2.2.2) := by
    have r := kp_cD_mk (σ := kf_wi (kf_ci τ 69 68 (4 * (kp_os nc n + w / nc)) 0 4) 67 1 (((ka_S A).1 d).2.1 + nI n)) (k := 67) (f := (kp_wq (ka_T A) ((ka_S A).1 d) (nI (ka_S A).2.2.2) n (w / nc)).1) (a := ((ka_S A).1 d).2.1 + nI n) (b := ((ka_S A).1 d).2.2.1) (c := ((ka_S A).1 d).2.2.2.1) (d := D.2.2.2.2.1) (e := D.2.2.2.2.2) (fun p hp => by
      rw [kp_wi_row (by decide), kz_ci_in (Nat.zero_le _) (by omega), Nat.sub_zero]
      exact hi1 n (w / nc) hn hwd hv0 p hp) (kp_wi_same _ _ _ _) (by rw [kp_wi_col (by decide), kp_ci_row (by decide), f2, hD3]) (by rw [kp_wi_col (by decide), kp_ci_row (by decide), f3, hD4]) (by rw [kp_wi_col (by decide), kp_ci_row (by decide), f4]) (by rw [kp_wi_col (by decide), kp_ci_row (by decide), f5])
    rw [q.1] at r
    exact r
  have ok8 : kp_Dok ((kp_wq (ka_T A) ((ka_S A).1 d) (nI (ka_S A).2.2.2) n (w / nc)).1, ((ka_S A).1 d).2.1 + nI n, ((ka_S A).1 d).2.2.1, ((ka_S A).1 d).2.2.2.1, D.2.2.2.2.1, D.2.2.2.2.2) := ⟨qok.1, (hA.2.1.1 d hd).2.1, hD2.2.2.1, hD2.2.2.2⟩
  obtain ⟨τ1, a1, a2, a3⟩ := kC_lf (dy := nI (ka_S A).2.2.2) hA h8 (c := w % nc) (by rw [hT]; exact Nat.mod_lt _ h0) e8 ok8
  have ok9 := kp_lf_ok hA.1 ok8 (c := w % nc) (by rw [hT]; exact Nat.mod_lt _ h0) (nI (ka_S A).2.2.2)
  have h9 := h8.ch hA a2
  have kn := kC_kt hA h9 a3 ok9
  have eq1 : (kp_lf (ka_T A) ((kp_wq (ka_T A) ((ka_S A).1 d) (nI (ka_S A).2.2.2) n (w / nc)).1, ((ka_S A).1 d).2.1 + nI n, ((ka_S A).1 d).2.2.1, ((ka_S A).1 d).2.2.2.1, D.2.2.2.2.1, D.2.2.2.2.2) (w % nc) (nI (ka_S A).2.2.2)).1 = (kp_wq (ka_T A) ((ka_S A).1 d) (nI (ka_S A).2.2.2) (n + 1) w).1 := by
    rw [kp_wq_s, hT]
    exact kp_lf_c rfl q.2.1.symm q.2.2.1.symm q.2.2.2.symm
  rw [eq1] at kn
  have e1 : nI v - 1 = nI (v - 1) := pk_sub (b := 1) (by omega)
  have e2 : nI (v - 1) / nI nc = nI (kp_os nc n + w / nc) := by rw [pk_div (by omega) h0 (by omega), hp.1]
  have e3 : nI (v - 1) - nI (kp_os nc n + w / nc) * nI nc = nI (w % nc) := by
    rw [← e2, pk_rem (by omega) h0 (by omega), hp.2]
  have k1 : nI nc * 1 = nI nc := Int32.mul_one _
  have lev := kC_lev (σ := kf_ci τ 69 68 (4 * (kp_os nc n + w / nc)) 0 4) (n := n) (w := w / nc) h0 h5 (by rw [← hT]; exact h5'.1.1.2.1) (by omega) hwd
  have fl : (kf_ci τ 69 68 (4 * (kp_os nc n + w / nc)) 0 4).1 (46 + 2 * d) 1 = ((ka_S A).1 d).2.1 := (kC_fa h5' hd).2.1
  have fy : (kf_wi (kf_ci τ 69 68 (4 * (kp_os nc n + w / nc)) 0 4) 67 1 (((ka_S A).1 d).2.1 + nI n)).1 44 3 = nI (ka_S A).2.2.2 := h8.2.1.2.2.2
  have c9 : kp_ch kp_xC σ τ1 := c8.tr a2
  have step : f_X0_nodeKnownBy_86 (f + 1) 66 (nI d) (nI c) (nI nc) (nI (kp_os nc 5)) (nI v) τ = if kp_kn (ka_T A) (kp_wq (ka_T A) ((ka_S A).1 d) (nI (ka_S A).2.2.2) (n + 1) w).1 = nI c then some (nI v, τ1) else if nI 624 ≤ nI (4 * v) then f_X0_nodeKnownBy_86 f 66 (nI d) (nI c) (nI nc) (nI (kp_os nc 5)) (nI (v + 1)) τ1 else if kf_cok 0 (nI (4 * v)) 4 4 624 = true then f_X0_nodeKnownBy_86 f 66 (nI d) (nI c) (nI nc) (nI (kp_os nc 5)) (nI (v + 1)) (kf_ci τ1 68 69 0 (4 * v) 4) else none := by
    show f_X0_nodeKnownBy_86_s _ 66 (nI d) (nI c) (nI nc) (nI (kp_os nc 5)) (nI v) τ = _
    unfold f_X0_nodeKnownBy_86_s f_X0_nodeKnownBy_224
    have e4 : (4 : Int32) * nI v = nI (4 * v) := pk_mul 4 v
    have e5 : (4 : Int32) * nI (kp_os nc n + w / nc) = nI (4 * (kp_os nc n + w / nc)) := pk_mul 4 _
    have ck : (kf_cok (nI (4 * (kp_os nc n + w / nc))) 0 4 624 4 = true) = True := kz_cok1 (n := 4) (by omega) (by omega) (by omega) (by omega)
    by_cases cv : v < 156
    · have c4 : Int32.toNatClampNeg (nI (4 * v)) = 4 * v := nI_clamp (by omega)
      simp (disch := omega) only [↓reduceIte, kz_lt, Option.bind_some, kz_ix, kz_leT, kz_leF, kz_ltT, kz_ltF, kz_lt0, kz_0le, kz_0ltT, kz_le0F, kz_eq0F, kz_10, kz_00, kz_11, kz_01, nI_clamp, nI_1, nI_add, kc0, kc1, kc2, kc3, kc4, kc5, kc6, kc7, kc8, kc9, kc10, kx0, kx1, kx2, kx3, kx4, kx5, kx6, kx7, kx8, kr0_0, kr0_1, kr0_2, kr0_3, kr0_4, kr0_5, kr0_6, kr0_7, kr0_8, kr0_9, kr1_1, kr1_2, kr1_3, kr1_4, kr1_5, kr7_6, kr7_7, kr7_8, kr7_9, kr7_10, kr7_11, kr7_12, kr7_13, kr7_14, kr7_15, kr7_16, kr16_1, kr16_2, kr19_1, kr19_2, kr22_1, kr22_2, kr25_6, kr25_7, kr25_8, kr25_9, kr25_10, kr25_11, kr25_12, kr25_13, kr25_14, kr25_15, kr25_16, kr34_1, kr34_2, kr37_1, kr37_2, kr40_1, kr40_2, kr43_2, kr43_3, kr44_0, kr44_1, kr44_4, kr46_0, kr48_0, kr50_0, kr52_0, kr54_0, kr56_0, kr60_3, kr60_4, kr63_0, kr63_1, kr63_2, kr66_0, kr66_1, kr66_2, kr66_3, kr66_4, kr67_0, kr70_0, kr70_1, kr70_2, kr72_1, kr72_2, kr72_3, kr72_4, kr72_5, kr72_6, kr72_7, kl2, kl3, kl4, kl5, kl6, kl8, kl9, kl10, kl11, kl12, kl13, kl14, kl15, kl17, kl18, kl20, kl21, kl23, kl24, kl26, kl27, kl28, kl29, kl30, kl31, kl32, kl33, kl35, kl36, kl38, kl39, kl41, kl42, kl45, kl47, kl49, kl51, kl53, kl55, kl57, kl58, kl59, kl61, kl62, kl64, kl65, kl68, kl69, kl71, kl73, kl74, kl75, kl76, e1, e2, e3, e4, e5, ck, kz_rf45, lev, fl, fy, a1, kn]
    · have c4 : (nI 624 ≤ nI (4 * v)) = True := kz_leT (by omega) (by omega)
      simp (disch := omega) only [↓reduceIte, kz_lt, Option.bind_some, kz_ix, kz_leT, kz_leF, kz_ltT, kz_ltF, kz_lt0, kz_0le, kz_0ltT, kz_le0F, kz_eq0F, kz_10, kz_00, kz_11, kz_01, nI_clamp, nI_1, nI_add, kc0, kc1, kc2, kc3, kc4, kc5, kc6, kc7, kc8, kc9, kc10, kx0, kx1, kx2, kx3, kx4, kx5, kx6, kx7, kx8, kr0_0, kr0_1, kr0_2, kr0_3, kr0_4, kr0_5, kr0_6, kr0_7, kr0_8, kr0_9, kr1_1, kr1_2, kr1_3, kr1_4, kr1_5, kr7_6, kr7_7, kr7_8, kr7_9, kr7_10, kr7_11, kr7_12, kr7_13, kr7_14, kr7_15, kr7_16, kr16_1, kr16_2, kr19_1, kr19_2, kr22_1, kr22_2, kr25_6, kr25_7, kr25_8, kr25_9, kr25_10, kr25_11, kr25_12, kr25_13, kr25_14, kr25_15, kr25_16, kr34_1, kr34_2, kr37_1, kr37_2, kr40_1, kr40_2, kr43_2, kr43_3, kr44_0, kr44_1, kr44_4, kr46_0, kr48_0, kr50_0, kr52_0, kr54_0, kr56_0, kr60_3, kr60_4, kr63_0, kr63_1, kr63_2, kr66_0, kr66_1, kr66_2, kr66_3, kr66_4, kr67_0, kr70_0, kr70_1, kr70_2, kr72_1, kr72_2, kr72_3, kr72_4, kr72_5, kr72_6, kr72_7, kl2, kl3, kl4, kl5, kl6, kl8, kl9, kl10, kl11, kl12, kl13, kl14, kl15, kl17, kl18, kl20, kl21, kl23, kl24, kl26, kl27, kl28, kl29, kl30, kl31, kl32, kl33, kl35, kl36, kl38, kl39, kl41, kl42, kl45, kl47, kl49, kl51, kl53, kl55, kl57, kl58, kl59, kl61, kl62, kl64, kl65, kl68, kl69, kl71, kl73, kl74, kl75, kl76, e1, e2, e3, e4, e5, ck, kz_rf45, lev, fl, fy, a1, kn, c4]
  have out : ∀ j, ¬ kp_G A d c v → j < 4 → (kp_lf (ka_T A) ((kp_wq (ka_T A) ((ka_S A).1 d) (nI (ka_S A).2.2.2) n (w / nc)).1, ((ka_S A).1 d).2.1 + nI n, ((ka_S A).1 d).2.2.1, ((ka_S A).1 d).2.2.2.1, D.2.2.2.2.1, D.2.2.2.2.2) (w % nc) (nI (ka_S A).2.2.2)).1 j = (kp_wq (ka_T A) ((ka_S A).1 d) (nI (ka_S A).2.2.2) (n + 1) w).1 j := fun j _ _ => by rw [eq1]
  have e69 : τ1.1 69 = τ.1 69 := by
    rw [kC_lf69 hA h8 (c := w % nc) (by rw [hT]; exact Nat.mod_lt _ h0) e8 ok8 a1, kz_rowf (by decide), kp_ci_row (by decide)]
  refine ⟨fun g => ⟨τ1, by rw [step, if_pos (hG.mp g)], c9⟩, fun g => ?_⟩
  have ng := fun e => g (hG.mpr e)
  have inv0 : ∀ τ', (∀ j, j < 624 → ¬ (4 * v ≤ j ∧ j < 4 * v + 4) → τ'.1 69 j = τ.1 69 j) → (v < 156 → ∀ p, p < 4 → τ'.1 69 (4 * v + p) = (kp_wq (ka_T A) ((ka_S A).1 d) (nI (ka_S A).2.2.2) (n + 1) w).1 p) → kp_cD τ' 67 = kp_cD τ1 67 → kL_i A d (v + 1) τ' := by
    intro τ' q1 q2 q3
    unfold kL_i
    rw [hT]
    refine ⟨fun m u hm hu hlt2 p hp4 => ?_, _, q3.trans a3, ok9, rfl, rfl⟩
    have bm := (kp_os_all nc h5 (m + 1) (by omega)).2.2 (by omega)
    rw [kp_os_s] at bm
    by_cases b : kp_os nc m + u = v
    · have b' : kp_os nc m + u = kp_os nc (n + 1) + w := b.trans hv
      obtain ⟨rfl, rfl⟩ := kp_os_u h0 hu hw b'
      rw [b]
      exact q2 (by omega) p hp4
    · rw [q1 _ (by omega) (by omega)]
      exact hi1 m u hm hu (by omega) p hp4
  by_cases cv : v < 156
  · refine ⟨kf_ci τ1 68 69 0 (4 * v) 4, ?_, kp_ch.ci (S := kp_xC) c9 (by unfold kp_xC; omega), ?_⟩
    · rw [step, if_neg ng, if_neg (nI_ge (by omega) (by omega)), if_pos (show kf_cok 0 (nI (4 * v)) 4 4 624 = true from of_eq_true (kz_cok0 (d := 4 * v) (n := 4) (by omega) (by omega) (by omega) (by omega)))]
    · refine inv0 _ (fun j hj hn => ?_) (fun _ p hp => ?_) (kp_cD_eq (kp_ci_row (by decide)) (kp_ci_row (by decide)))
      · rw [kz_ci_out (by omega), e69]
      · rw [kz_ci_in (by omega) (by omega), show 0 + (4 * v + p - 4 * v) = p by omega, (kp_cD_f a3).1 p hp, out p g hp]
  · refine ⟨τ1, ?_, c9, inv0 _ (fun j hj hn => by rw [e69]) (fun e => absurd e cv) rfl⟩
    rw [step, if_neg ng, if_pos (nI_le (by omega) (by omega))]
