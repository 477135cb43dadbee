/-! ===== pure: doors and callers, paired best ===== -/
theorem kp_un_n {f g : Nat → Int32} (hf : ∀ p, p < 4 → kp_sm (f p)) (hg : ∀ p, p < 4 → kp_sm (g p)) : ∃ n, n ≤ 396 ∧ kp_un f g = nI n := by
  have one : ∀ p, p < 4 → ∃ n, n < 100 ∧ kp_of (f p) (g p) = nI n := fun p hp => kp_of_sm (hf p hp) (hg p hp)
  have main : ∀ m, m ≤ 4 → ∃ n, n ≤ 99 * m ∧ l_sum (fun p => kp_of (f p) (g p)) m = nI n := by
    intro m
    induction m with
    | zero => intro _; exact ⟨0, by omega, rfl⟩
    | succ m ih =>
      intro hm
      obtain ⟨n, h1, h2⟩ := ih (by omega)
      obtain ⟨q, h3, h4⟩ := one m (by omega)
      refine ⟨n + q, by omega, ?_⟩
      show l_sum _ m + kp_of (f m) (g m) = _
      rw [h2, h4, nI_add]
  obtain ⟨n, h1, h2⟩ := main 4 (by decide)
  exact ⟨n, by omega, h2⟩
def kp_U (A : kp_A) (d c : Nat) : Nat := (kp_un ((ka_S A).1 d).1 (kt_lo (ka_T A) c)).toNatClampNeg
theorem kp_U_n {A : kp_A} {k d c : Nat} (hA : kp_Aok A k) (hd : d < kt_nd (ka_T A)) (hc : c < kt_nc (ka_T A)) : kp_un ((ka_S A).1 d).1 (kt_lo (ka_T A) c) = nI (kp_U A d c) ∧ kp_U A d c ≤ 396 := by
  obtain ⟨n, h1, h2⟩ := kp_un_n (hA.2.1.1 d hd).1 (hA.1.2.2.1 c hc)
  unfold kp_U
  rw [h2, nI_clamp (by omega)]
  exact ⟨rfl, h1⟩
/-- the least over callers below n -/
def kp_lm (u : Nat → Nat) (t : Nat) (L : Nat → Nat) : Nat → Nat
  | 0 => 10000 + L t
  | c + 1 => if kp_bt t c = 0 then min (kp_lm u t L c) (u c + L (t + 2 ^ c)) else kp_lm u t L c
theorem kp_lm_s (u : Nat → Nat) (t : Nat) (L : Nat → Nat) (c : Nat) : kp_lm u t L (c + 1) = if kp_bt t c = 0 then min (kp_lm u t L c) (u c + L (t + 2 ^ c)) else kp_lm u t L c := rfl
theorem kp_lm_le (u : Nat → Nat) (t : Nat) (L : Nat → Nat) : ∀ n, kp_lm u t L n ≤ 10000 + L t
  | 0 => Nat.le_refl _
  | n + 1 => by
    have := kp_lm_le u t L n
    rw [kp_lm_s]
    by_cases b : kp_bt t n = 0
    · rw [if_pos b]; omega
    · rw [if_neg b]; exact this
theorem kp_lm_le2 (u : Nat → Nat) (t : Nat) (L : Nat → Nat) {c : Nat} (hb : kp_bt t c = 0) : ∀ n, c < n → kp_lm u t L n ≤ u c + L (t + 2 ^ c)
  | 0, h => absurd h (Nat.not_lt_zero c)
  | n + 1, h => by
    rw [kp_lm_s]
    by_cases e : c = n
    · subst e; rw [if_pos hb]; omega
    · have := kp_lm_le2 u t L hb n (by omega)
      by_cases b : kp_bt t n = 0
      · rw [if_pos b]; omega
      · rw [if_neg b]; exact this
theorem kp_lm_ge (u : Nat → Nat) (t : Nat) (L : Nat → Nat) {B : Nat} (h0 : B ≤ 10000 + L t) : ∀ n, (∀ c, c < n → kp_bt t c = 0 → B ≤ u c + L (t + 2 ^ c)) → B ≤ kp_lm u t L n
  | 0, _ => h0
  | n + 1, h => by
    have := kp_lm_ge u t L h0 n (fun c hc hb => h c (by omega) hb)
    rw [kp_lm_s]
    by_cases b : kp_bt t n = 0
    · rw [if_pos b]
      have := h n (by omega) b
      omega
    · rw [if_neg b]; exact this
def kp_LL (D : Nat) (U : Nat → Nat → Nat) (nc : Nat) : Nat → Nat → Nat
  | 0, _ => 0
  | e + 1, t => kp_lm (U (D - (e + 1))) t (kp_LL D U nc e) nc
theorem kp_LL_s (D : Nat) (U : Nat → Nat → Nat) (nc e t : Nat) : kp_LL D U nc (e + 1) t = kp_lm (U (D - (e + 1))) t (kp_LL D U nc e) nc := rfl
theorem kp_LL_le (D : Nat) (U : Nat → Nat → Nat) (nc : Nat) : ∀ e t, kp_LL D U nc e t ≤ 10000 * e
  | 0, _ => Nat.le_refl _
  | e + 1, t => by
    rw [kp_LL_s]
    have h1 := kp_lm_le (U (D - (e + 1))) t (kp_LL D U nc e) nc
    have h2 := kp_LL_le D U nc e t
    omega
def kp_fr (nc t : Nat) : Nat := kp_ct (fun c => decide (kp_bt t c = 0)) nc
theorem kp_fr_all : ∀ nc, nc ≤ 5 → ∀ t, t < 32 → ∀ c, c < nc → kp_bt t c = 0 → kp_fr nc (t + 2 ^ c) + 1 = kp_fr nc t ∧ t + 2 ^ c < 32 := by decide +kernel
theorem kp_fr_0 : ∀ nc, nc ≤ 5 → kp_fr nc 0 = nc := by decide +kernel
theorem kp_fr_ex {t : Nat} : ∀ nc, 0 < kp_fr nc t → ∃ c, c < nc ∧ kp_bt t c = 0
  | 0, h => absurd h (Nat.lt_irrefl 0)
  | nc + 1, h => by
    by_cases b : kp_bt t nc = 0
    · exact ⟨nc, by omega, b⟩
    · unfold kp_fr at h
      rw [kp_ct_s, if_neg (fun e => b (of_decide_eq_true e))] at h
      obtain ⟨c, h1, h2⟩ := kp_fr_ex nc h
      exact ⟨c, by omega, h2⟩
theorem kp_LL_b {D : Nat} {U : Nat → Nat → Nat} {nc : Nat} (hc : nc ≤ 5) (hU : ∀ d, d < D → ∀ c, c < nc → U d c ≤ 396) : ∀ e, e ≤ D → ∀ t, t < 32 → 10000 * (e - min e (kp_fr nc t)) ≤ kp_LL D U nc e t ∧ kp_LL D U nc e t ≤ 10000 * (e - min e (kp_fr nc t)) + 396 * min e (kp_fr nc t)
  | 0, _, t, _ => by
    show 10000 * (0 - min 0 _) ≤ 0 ∧ 0 ≤ _
    omega
  | e + 1, he, t, ht => by
    have ih := kp_LL_b hc hU e (by omega)
    have i0 := ih t ht
    rw [kp_LL_s]
    constructor
    · refine kp_lm_ge _ _ _ (by omega) nc (fun c hcn hb => ?_)
      obtain ⟨q1, q2⟩ := kp_fr_all nc hc t ht c hcn hb
      have i1 := ih _ q2
      omega
    · by_cases f0 : kp_fr nc t = 0
      · have h1 := kp_lm_le (U (D - (e + 1))) t (kp_LL D U nc e) nc
        rw [f0] at i0 ⊢
        omega
      · obtain ⟨c, hcn, hb⟩ := kp_fr_ex nc (show 0 < kp_fr nc t by omega)
        obtain ⟨q1, q2⟩ := kp_fr_all nc hc t ht c hcn hb
        have i1 := ih _ q2
        have h1 := kp_lm_le2 (U (D - (e + 1))) t (kp_LL D U nc e) hb nc hcn
        have h2 := hU (D - (e + 1)) (by omega) c hcn
        omega
theorem kp_or5 : ∀ t, t < 32 → ∀ c, c < 5 → kp_bt t c = 0 → nI t ||| ((1 : Int32) <<< (nI c &&& 31)) = nI (t + 2 ^ c) ∧ t + 2 ^ c < 32 := by decide +kernel
/-- the first of n that is so, or n -/
def kp_fn (g : Nat → Bool) : Nat → Nat → Nat
  | 0, i => i
  | m + 1, i => if g i then i else kp_fn g m (i + 1)
theorem kp_fn_s {g : Nat → Bool} {n i : Nat} (h : i < n) : kp_fn g (n - i) i = if g i then i else kp_fn g (n - (i + 1)) (i + 1) := by
  rw [show n - i = (n - (i + 1)) + 1 by omega]
  rfl
theorem kp_fn_i (g : Nat → Bool) : ∀ m i, kp_fn g m i = i + m ∨ (kp_fn g m i < i + m ∧ g (kp_fn g m i) = true)
  | 0, i => Or.inl rfl
  | m + 1, i => by
    show (if g i then i else kp_fn g m (i + 1)) = i + (m + 1) ∨ _
    by_cases b : g i = true
    · have e : kp_fn g (m + 1) i = i := if_pos b
      rw [e]
      exact Or.inr ⟨by omega, b⟩
    · have e : kp_fn g (m + 1) i = kp_fn g m (i + 1) := if_neg b
      rw [if_neg b, e]
      rcases kp_fn_i g m (i + 1) with h | ⟨h1, h2⟩
      · exact Or.inl (by omega)
      · exact Or.inr ⟨by omega, h2⟩
/-! the class -/
def kp_tC (A : kp_A) (E : Nat) (τ : kf_St) : Prop := ∀ e, e ≤ E → ∀ t, t < 32 → τ.1 71 ((kt_nd (ka_T A) - e) * 32 + t) = nI (kp_LL (kt_nd (ka_T A)) (kp_U A) (kt_nc (ka_T A)) e t)
theorem kC_sw {A : kp_A} {k : Nat} (hA : kp_Aok A k) {σ : kf_St} (h : kp_Cr A σ) {e t c : Nat} (ht : t < 32) (he : e < kt_nd (ka_T A)) (hc : c < kt_nc (ka_T A)) (hb : kp_bt t c = 0) (tb : kp_tC A e σ) : f_X5_sumWith 70 (nI (kt_nd (ka_T A) - (e + 1))) (nI t) (nI c) σ = some (nI (kp_U A (kt_nd (ka_T A) - (e + 1)) c + kp_LL (kt_nd (ka_T A)) (kp_U A) (kt_nc (ka_T A)) e (t + 2 ^ c)), σ) := by
  have h6 := hA.1.1.1
  have h5 := hA.1.1.2.1
  obtain ⟨o1, o2⟩ := kp_or5 t ht c (by omega) hb
  obtain ⟨u1, u2⟩ := kp_U_n hA (show kt_nd (ka_T A) - (e + 1) < kt_nd (ka_T A) by omega) hc
  have un := kC_un hA h (show kt_nd (ka_T A) - (e + 1) < kt_nd (ka_T A) by omega) hc
  rw [u1] at un
  have tv := tb e (Nat.le_refl _) (t + 2 ^ c) o2
  have e1 : kt_nd (ka_T A) - (e + 1) + 1 = kt_nd (ka_T A) - e := by omega
  have k32 : ∀ a, nI a * 32 = nI (a * 32) := fun a => pk_mul a 32
  unfold f_X5_sumWith
  simp (disch := omega) only [↓reduceIte, kz_lt, Option.bind_some, kz_ix, kz_leT, kz_leF, kz_ltT, kz_ltF, kz_lt0, kz_0le, kz_0ltT, kz_le0F, kz_eq0F, kz_10, kz_00, kz_11, kz_01, nI_clamp, nI_1, nI_add, pk_mul, kc0, kc1, kc2, kc3, kc4, kc5, kc6, kc7, kc8, kc9, kc10, kx0, kx1, kx2, kx3, kx4, kx5, kx6, kx7, kx8, kr0_0, kr0_1, kr0_2, kr0_3, kr0_4, kr0_5, kr0_6, kr0_7, kr0_8, kr0_9, kr1_1, kr1_2, kr1_3, kr1_4, kr1_5, kr7_6, kr7_7, kr7_8, kr7_9, kr7_10, kr7_11, kr7_12, kr7_13, kr7_14, kr7_15, kr7_16, kr16_1, kr16_2, kr19_1, kr19_2, kr22_1, kr22_2, kr25_6, kr25_7, kr25_8, kr25_9, kr25_10, kr25_11, kr25_12, kr25_13, kr25_14, kr25_15, kr25_16, kr34_1, kr34_2, kr37_1, kr37_2, kr40_1, kr40_2, kr43_2, kr43_3, kr44_0, kr44_1, kr44_4, kr46_0, kr48_0, kr50_0, kr52_0, kr54_0, kr56_0, kr60_3, kr60_4, kr63_0, kr63_1, kr63_2, kr66_0, kr66_1, kr66_2, kr66_3, kr66_4, kr67_0, kr70_0, kr70_1, kr70_2, kr72_1, kr72_2, kr72_3, kr72_4, kr72_5, kr72_6, kr72_7, kl2, kl3, kl4, kl5, kl6, kl8, kl9, kl10, kl11, kl12, kl13, kl14, kl15, kl17, kl18, kl20, kl21, kl23, kl24, kl26, kl27, kl28, kl29, kl30, kl31, kl32, kl33, kl35, kl36, kl38, kl39, kl41, kl42, kl45, kl47, kl49, kl51, kl53, kl55, kl57, kl58, kl59, kl61, kl62, kl64, kl65, kl68, kl69, kl71, kl73, kl74, kl75, kl76, e1, k32, o1, kz_rf45, kz_rfK, un, tv]
theorem kC_sw0 {A : kp_A} {k : Nat} (hA : kp_Aok A k) {σ : kf_St} {e t : Nat} (ht : t < 32) (he : e < kt_nd (ka_T A)) (tb : kp_tC A e σ) : f_X5_sumWith 70 (nI (kt_nd (ka_T A) - (e + 1))) (nI t) (-2) σ = some (nI (10000 + kp_LL (kt_nd (ka_T A)) (kp_U A) (kt_nc (ka_T A)) e t), σ) := by
  have h6 := hA.1.1.1
  have tv := tb e (Nat.le_refl _) t ht
  have e1 : kt_nd (ka_T A) - (e + 1) + 1 = kt_nd (ka_T A) - e := by omega
  have k32 : ∀ a, nI a * 32 = nI (a * 32) := fun a => pk_mul a 32
  have z : ((0 : Int32) ≤ -2) = False := eq_false (by decide)
  have k1 : ∀ a, (10000 : Int32) + nI a = nI (10000 + a) := fun a => nI_add 10000 a
  unfold f_X5_sumWith
  simp (disch := omega) only [↓reduceIte, kz_lt, Option.bind_some, kz_ix, kz_leT, kz_leF, kz_ltT, kz_ltF, kz_lt0, kz_0le, kz_0ltT, kz_le0F, kz_eq0F, kz_10, kz_00, kz_11, kz_01, nI_clamp, nI_1, nI_add, pk_mul, kc0, kc1, kc2, kc3, kc4, kc5, kc6, kc7, kc8, kc9, kc10, kx0, kx1, kx2, kx3, kx4, kx5, kx6, kx7, kx8, kr0_0, kr0_1, kr0_2, kr0_3, kr0_4, kr0_5, kr0_6, kr0_7, kr0_8, kr0_9, kr1_1, kr1_2, kr1_3, kr1_4, kr1_5, kr7_6, kr7_7, kr7_8, kr7_9, kr7_10, kr7_11, kr7_12, kr7_13, kr7_14, kr7_15, kr7_16, kr16_1, kr16_2, kr19_1, kr19_2, kr22_1, kr22_2, kr25_6, kr25_7, kr25_8, kr25_9, kr25_10, kr25_11, kr25_12, kr25_13, kr25_14, kr25_15, kr25_16, kr34_1, kr34_2, kr37_1, kr37_2, kr40_1, kr40_2, kr43_2, kr43_3, kr44_0, kr44_1, kr44_4, kr46_0, kr48_0, kr50_0, kr52_0, kr54_0, kr56_0, kr60_3, kr60_4, kr63_0, kr63_1, kr63_2, kr66_0, kr66_1, kr66_2, kr66_3, kr66_4, kr67_0, kr70_0, kr70_1, kr70_2, kr72_1, kr72_2, kr72_3, kr72_4, kr72_5, kr72_6, kr72_7, kl2, kl3, kl4, kl5, kl6, kl8, kl9, kl10, kl11, kl12, kl13, kl14, kl15, kl17, kl18, kl20, kl21, kl23, kl24, kl26, kl27, kl28, kl29, kl30, kl31, kl32, kl33, kl35, kl36, kl38, kl39, kl41, kl42, kl45, kl47, kl49, kl51, kl53, kl55, kl57, kl58, kl59, kl61, kl62, kl64, kl65, kl68, kl69, kl71, kl73, kl74, kl75, kl76, e1, k32, z, tv, k1]
theorem kp_minI {a b : Nat} (ha : a < 2 ^ 31) (hb : b < 2 ^ 31) : (if nI b < nI a then nI b else nI a) = nI (min a b) := by
  by_cases h : b < a
  · rw [if_pos (nI_lt h ha), Nat.min_eq_right (Nat.le_of_lt h)]
  · rw [if_neg (nI_nlt (by omega) hb), Nat.min_eq_left (by omega)]
theorem kp_LLb {A : kp_A} {k : Nat} (hA : kp_Aok A k) {e : Nat} (he : e ≤ kt_nd (ka_T A)) (t : Nat) : kp_LL (kt_nd (ka_T A)) (kp_U A) (kt_nc (ka_T A)) e t ≤ 60000 := by
  have := kp_LL_le (kt_nd (ka_T A)) (kp_U A) (kt_nc (ka_T A)) e t
  have := hA.1.1.1
  omega
theorem kC_lfr {A : kp_A} {k : Nat} (hA : kp_Aok A k) {σ : kf_St} (h : kp_Cr A σ) {e t : Nat} (ht : t < 32) (he : e < kt_nd (ka_T A)) (tb : kp_tC A e σ) : f_X5_leastFrom 70 (nI (kt_nd (ka_T A) - (e + 1))) (nI t) σ = some (nI (kp_LL (kt_nd (ka_T A)) (kp_U A) (kt_nc (ka_T A)) (e + 1) t), σ) := by
  have h6 := hA.1.1.1
  have h5 := hA.1.1.2.1
  unfold f_X5_leastFrom
  rw [kC_sw0 hA ht he tb, Option.bind_some]
  dsimp only
  rw [kp_LL_s]
  generalize hu : kp_U A (kt_nd (ka_T A) - (e + 1)) = u
  have hL : ∀ t, kp_LL (kt_nd (ka_T A)) (kp_U A) (kt_nc (ka_T A)) e t ≤ 60000 := fun t => kp_LLb hA (by omega) t
  generalize hg : kp_LL (kt_nd (ka_T A)) (kp_U A) (kt_nc (ka_T A)) e = L at hL
  refine kp_run (n := kt_nc (ka_T A)) (fun i f => f_X5_leastFrom_12 f 70 (nI (kt_nd (ka_T A) - (e + 1))) (nI t) (nI (kp_lm u t L i)) (nI i) σ = some (nI (kp_lm u t L (kt_nc (ka_T A))), σ)) (by omega) (fun f => ?_) (fun i hi f ih => ?_)
  · show f_X5_leastFrom_12_s _ 70 _ _ _ (nI (kt_nc (ka_T A))) σ = _
    unfold f_X5_leastFrom_12_s
    simp (disch := omega) only [↓reduceIte, kz_lt, Option.bind_some, kz_ix, kz_leT, kz_leF, kz_ltT, kz_ltF, kz_lt0, kz_0le, kz_0ltT, kz_le0F, kz_eq0F, kz_10, kz_00, kz_11, kz_01, nI_clamp, nI_1, nI_add, pk_mul, kc0, kc1, kc2, kc3, kc4, kc5, kc6, kc7, kc8, kc9, kc10, kx0, kx1, kx2, kx3, kx4, kx5, kx6, kx7, kx8, kr0_0, kr0_1, kr0_2, kr0_3, kr0_4, kr0_5, kr0_6, kr0_7, kr0_8, kr0_9, kr1_1, kr1_2, kr1_3, kr1_4, kr1_5, kr7_6, kr7_7, kr7_8, kr7_9, kr7_10, kr7_11, kr7_12, kr7_13, kr7_14, kr7_15, kr7_16, kr16_1, kr16_2, kr19_1, kr19_2, kr22_1, kr22_2, kr25_6, kr25_7, kr25_8, kr25_9, kr25_10, kr25_11, kr25_12, kr25_13, kr25_14, kr25_15, kr25_16, kr34_1, kr34_2, kr37_1, kr37_2, kr40_1, kr40_2, kr43_2, kr43_3, kr44_0, kr44_1, kr44_4, kr46_0, kr48_0, kr50_0, kr52_0, kr54_0, kr56_0, kr60_3, kr60_4, kr63_0, kr63_1, kr63_2, kr66_0, kr66_1, kr66_2, kr66_3, kr66_4, kr67_0, kr70_0, kr70_1, kr70_2, kr72_1, kr72_2, kr72_3, kr72_4, kr72_5, kr72_6, kr72_7, kl2, kl3, kl4, kl5, kl6, kl8, kl9, kl10, kl11, kl12, kl13, kl14, kl15, kl17, kl18, kl20, kl21, kl23, kl24, kl26, kl27, kl28, kl29, kl30, kl31, kl32, kl33, kl35, kl36, kl38, kl39, kl41, kl42, kl45, kl47, kl49, kl51, kl53, kl55, kl57, kl58, kl59, kl61, kl62, kl64, kl65, kl68, kl69, kl71, kl73, kl74, kl75, kl76, h.1.1.2.1]
  · show f_X5_leastFrom_12_s _ 70 _ _ _ (nI i) σ = _
    unfold f_X5_leastFrom_12_s f_X5_leastFrom_46
    have b2 : kp_bt t i < 2 := Nat.mod_lt _ (by decide)
    have bb := kp_bit (K := t) (r := i) (by omega) (by omega)
    rw [kp_lm_s] at ih
    have l1 := kp_lm_le u t L i
    have l2 := hL t
    by_cases b : kp_bt t i = 0
    · rw [if_pos b] at ih
      have sw := kC_sw hA h ht he hi b tb
      rw [hu, hg] at sw
      obtain ⟨u1, u2⟩ := kp_U_n hA (show kt_nd (ka_T A) - (e + 1) < kt_nd (ka_T A) by omega) hi
      rw [hu] at u2
      have l3 := hL (t + 2 ^ i)
      rw [b] at bb
      simp (disch := omega) only [↓reduceIte, kz_lt, Option.bind_some, kz_ix, kz_leT, kz_leF, kz_ltT, kz_ltF, kz_lt0, kz_0le, kz_0ltT, kz_le0F, kz_eq0F, kz_10, kz_00, kz_11, kz_01, nI_clamp, nI_1, nI_add, pk_mul, kc0, kc1, kc2, kc3, kc4, kc5, kc6, kc7, kc8, kc9, kc10, kx0, kx1, kx2, kx3, kx4, kx5, kx6, kx7, kx8, kr0_0, kr0_1, kr0_2, kr0_3, kr0_4, kr0_5, kr0_6, kr0_7, kr0_8, kr0_9, kr1_1, kr1_2, kr1_3, kr1_4, kr1_5, kr7_6, kr7_7, kr7_8, kr7_9, kr7_10, kr7_11, kr7_12, kr7_13, kr7_14, kr7_15, kr7_16, kr16_1, kr16_2, kr19_1, kr19_2, kr22_1, kr22_2, kr25_6, kr25_7, kr25_8, kr25_9, kr25_10, kr25_11, kr25_12, kr25_13, kr25_14, kr25_15, kr25_16, kr34_1, kr34_2, kr37_1, kr37_2, kr40_1, kr40_2, kr43_2, kr43_3, kr44_0, kr44_1, kr44_4, kr46_0, kr48_0, kr50_0, kr52_0, kr54_0, kr56_0, kr60_3, kr60_4, kr63_0, kr63_1, kr63_2, kr66_0, kr66_1, kr66_2, kr66_3, kr66_4, kr67_0, kr70_0, kr70_1, kr70_2, kr72_1, kr72_2, kr72_3, kr72_4, kr72_5, kr72_6, kr72_7, kl2, kl3, kl4, kl5, kl6, kl8, kl9, kl10, kl11, kl12, kl13, kl14, kl15, kl17, kl18, kl20, kl21, kl23, kl24, kl26, kl27, kl28, kl29, kl30, kl31, kl32, kl33, kl35, kl36, kl38, kl39, kl41, kl42, kl45, kl47, kl49, kl51, kl53, kl55, kl57, kl58, kl59, kl61, kl62, kl64, kl65, kl68, kl69, kl71, kl73, kl74, kl75, kl76, h.1.1.2.1, bb, sw]
      rw [if_pos (show nI 0 = 0 from rfl), kp_minI (by omega) (by omega)]
      exact ih
    · rw [if_neg b] at ih
      have nb : (nI (kp_bt t i) = 0) = False := kz_eq0F (by omega) (by omega)
      simp (disch := omega) only [↓reduceIte, kz_lt, Option.bind_some, kz_ix, kz_leT, kz_leF, kz_ltT, kz_ltF, kz_lt0, kz_0le, kz_0ltT, kz_le0F, kz_eq0F, kz_10, kz_00, kz_11, kz_01, nI_clamp, nI_1, nI_add, pk_mul, kc0, kc1, kc2, kc3, kc4, kc5, kc6, kc7, kc8, kc9, kc10, kx0, kx1, kx2, kx3, kx4, kx5, kx6, kx7, kx8, kr0_0, kr0_1, kr0_2, kr0_3, kr0_4, kr0_5, kr0_6, kr0_7, kr0_8, kr0_9, kr1_1, kr1_2, kr1_3, kr1_4, kr1_5, kr7_6, kr7_7, kr7_8, kr7_9, kr7_10, kr7_11, kr7_12, kr7_13, kr7_14, kr7_15, kr7_16, kr16_1, kr16_2, kr19_1, kr19_2, kr22_1, kr22_2, kr25_6, kr25_7, kr25_8, kr25_9, kr25_10, kr25_11, kr25_12, kr25_13, kr25_14, kr25_15, kr25_16, kr34_1, kr34_2, kr37_1, kr37_2, kr40_1, kr40_2, kr43_2, kr43_3, kr44_0, kr44_1, kr44_4, kr46_0, kr48_0, kr50_0, kr52_0, kr54_0, kr56_0, kr60_3, kr60_4, kr63_0, kr63_1, kr63_2, kr66_0, kr66_1, kr66_2, kr66_3, kr66_4, kr67_0, kr70_0, kr70_1, kr70_2, kr72_1, kr72_2, kr72_3, kr72_4, kr72_5, kr72_6, kr72_7, kl2, kl3, kl4, kl5, kl6, kl8, kl9, kl10, kl11, kl12, kl13, kl14, kl15, kl17, kl18, kl20, kl21, kl23, kl24, kl26, kl27, kl28, kl29, kl30, kl31, kl32, kl33, kl35, kl36, kl38, kl39, kl41, kl42, kl45, kl47, kl49, kl51, kl53, kl55, kl57, kl58, kl59, kl61, kl62, kl64, kl65, kl68, kl69, kl71, kl73, kl74, kl75, kl76, h.1.1.2.1, bb, nb]
      exact ih
theorem kC_f48 {A : kp_A} {k : Nat} (hA : kp_Aok A k) {σ : kf_St} (h : kp_Cr A σ) {e : Nat} (he : e < kt_nd (ka_T A)) (rec : Nat → Int32 → kf_St → Option kf_St) {τ0 : kf_St} (c0 : kp_ch kp_xC σ τ0) (tb : kp_tC A e τ0) : ∃ τ, f_X5_findBest_48 rec kf_F 70 (nI (kt_nd (ka_T A) - (e + 1))) 0 τ0 = rec 70 (nI (kt_nd (ka_T A) - (e + 1)) + (-1)) τ ∧ kp_ch kp_xC σ τ ∧ kp_tC A (e + 1) τ := by
  have h6 := hA.1.1.1
  have k32 : ∀ a, nI a * 32 = nI (a * 32) := fun a => pk_mul a 32
  refine kp_run (n := 32) (fun i f => ∀ τ, kp_ch kp_xC σ τ → kp_tC A e τ → (∀ t, t < i → τ.1 71 ((kt_nd (ka_T A) - (e + 1)) * 32 + t) = nI (kp_LL (kt_nd (ka_T A)) (kp_U A) (kt_nc (ka_T A)) (e + 1) t)) → ∃ τ', f_X5_findBest_48 rec f 70 (nI (kt_nd (ka_T A) - (e + 1))) (nI i) τ = rec 70 (nI (kt_nd (ka_T A) - (e + 1)) + (-1)) τ' ∧ kp_ch kp_xC σ τ' ∧ kp_tC A (e + 1) τ') (by decide) (fun f τ cc tb ht => ?_) (fun i hi f ih τ cc tb ht => ?_) τ0 c0 tb (fun t ht => absurd ht (Nat.not_lt_zero t))
  · refine ⟨τ, ?_, cc, fun q hq t ht' => ?_⟩
    · show f_X5_findBest_48_s _ _ 70 _ (nI 32) τ = _
      unfold f_X5_findBest_48_s
      rw [if_pos (by decide)]
      rfl
    · by_cases b : q = e + 1
      · rw [b]; exact ht t ht'
      · exact tb q (by omega) t ht'
  · have lf := kC_lfr hA (h.ch hA cc) hi he tb
    obtain ⟨τ', r1, r2⟩ := ih (kf_wi τ 71 ((kt_nd (ka_T A) - (e + 1)) * 32 + i) (nI (kp_LL (kt_nd (ka_T A)) (kp_U A) (kt_nc (ka_T A)) (e + 1) i))) (kp_ch.wi (S := kp_xC) cc (by unfold kp_xC; omega)) (fun q hq t ht' => by rw [kp_wi_col (by omega)]; exact tb q hq t ht') (fun t ht' => by
      by_cases b : t = i
      · rw [b, kp_wi_same]
      · rw [kp_wi_col (by omega)]; exact ht t (by omega))
    refine ⟨τ', ?_, r2⟩
    show f_X5_findBest_48_s _ _ 70 _ (nI i) τ = _
    unfold f_X5_findBest_48_s
    have c32 : ((32 : Int32) ≤ nI i) = False := kz_leF (a := 32) hi (by decide)
    simp (disch := omega) only [↓reduceIte, kz_lt, Option.bind_some, kz_ix, kz_leT, kz_leF, kz_ltT, kz_ltF, kz_lt0, kz_0le, kz_0ltT, kz_le0F, kz_eq0F, kz_10, kz_00, kz_11, kz_01, nI_clamp, nI_1, nI_add, pk_mul, kc0, kc1, kc2, kc3, kc4, kc5, kc6, kc7, kc8, kc9, kc10, kx0, kx1, kx2, kx3, kx4, kx5, kx6, kx7, kx8, kr0_0, kr0_1, kr0_2, kr0_3, kr0_4, kr0_5, kr0_6, kr0_7, kr0_8, kr0_9, kr1_1, kr1_2, kr1_3, kr1_4, kr1_5, kr7_6, kr7_7, kr7_8, kr7_9, kr7_10, kr7_11, kr7_12, kr7_13, kr7_14, kr7_15, kr7_16, kr16_1, kr16_2, kr19_1, kr19_2, kr22_1, kr22_2, kr25_6, kr25_7, kr25_8, kr25_9, kr25_10, kr25_11, kr25_12, kr25_13, kr25_14, kr25_15, kr25_16, kr34_1, kr34_2, kr37_1, kr37_2, kr40_1, kr40_2, kr43_2, kr43_3, kr44_0, kr44_1, kr44_4, kr46_0, kr48_0, kr50_0, kr52_0, kr54_0, kr56_0, kr60_3, kr60_4, kr63_0, kr63_1, kr63_2, kr66_0, kr66_1, kr66_2, kr66_3, kr66_4, kr67_0, kr70_0, kr70_1, kr70_2, kr72_1, kr72_2, kr72_3, kr72_4, kr72_5, kr72_6, kr72_7, kl2, kl3, kl4, kl5, kl6, kl8, kl9, kl10, kl11, kl12, kl13, kl14, kl15, kl17, kl18, kl20, kl21, kl23, kl24, kl26, kl27, kl28, kl29, kl30, kl31, kl32, kl33, kl35, kl36, kl38, kl39, kl41, kl42, kl45, kl47, kl49, kl51, kl53, kl55, kl57, kl58, kl59, kl61, kl62, kl64, kl65, kl68, kl69, kl71, kl73, kl74, kl75, kl76, c32, lf, k32]
    exact r1
theorem kC_fb {A : kp_A} {k : Nat} (hA : kp_Aok A k) {σ : kf_St} (h : kp_Cr A σ) : ∃ τ, f_X5_findBest 70 σ = some τ ∧ kp_ch kp_xC σ τ ∧ kp_tC A (kt_nd (ka_T A)) τ := by
  have h6 := hA.1.1.1
  have k32 : ∀ a, nI a * 32 = nI (a * 32) := fun a => pk_mul a 32
  have down : ∀ j, j ≤ kt_nd (ka_T A) → ∀ f, j < f → ∀ τ, kp_ch kp_xC σ τ → kp_tC A (kt_nd (ka_T A) - j) τ → ∃ τ', f_X5_findBest_42 f 70 (nI j - 1) τ = some τ' ∧ kp_ch kp_xC σ τ' ∧ kp_tC A (kt_nd (ka_T A)) τ' := by
    intro j
    induction j with
    | zero =>
      intro _ f hf τ cc tb
      obtain ⟨g, rfl⟩ := kp_fuel (show 0 < f by omega)
      refine ⟨τ, ?_, cc, tb⟩
      show f_X5_findBest_42_s _ 70 (nI 0 - 1) τ = _
      unfold f_X5_findBest_42_s
      exact if_pos (by decide)
    | succ j ih =>
      intro hj f hf τ cc tb
      obtain ⟨g, rfl⟩ := kp_fuel (show 0 < f by omega)
      obtain ⟨τ1, a1, a2, a3⟩ := kC_f48 hA h (e := kt_nd (ka_T A) - (j + 1)) (by omega) (f_X5_findBest_42 g) cc tb
      rw [show kt_nd (ka_T A) - (kt_nd (ka_T A) - (j + 1) + 1) = j by omega] at a1
      rw [show kt_nd (ka_T A) - (j + 1) + 1 = kt_nd (ka_T A) - j by omega] at a3
      obtain ⟨τ', b1, b2⟩ := ih (by omega) g (by omega) τ1 a2 a3
      refine ⟨τ', ?_, b2⟩
      show f_X5_findBest_42_s _ 70 (nI (j + 1) - 1) τ = _
      unfold f_X5_findBest_42_s
      rw [nI_pred, if_neg (nI_pos (by omega)), a1, show nI j + (-1) = nI j - 1 from (Int32.sub_eq_add_neg _ _).symm]
      exact b1
  unfold f_X5_findBest
  refine kp_run (n := 32) (fun i f => ∀ τ, kp_ch kp_xC σ τ → (∀ t, t < i → τ.1 71 (kt_nd (ka_T A) * 32 + t) = 0) → ∃ τ', f_X5_findBest_2 f 70 (nI i) τ = some τ' ∧ kp_ch kp_xC σ τ' ∧ kp_tC A (kt_nd (ka_T A)) τ') (by decide) (fun f τ cc ht => ?_) (fun i hi f ih τ cc ht => ?_) σ kp_ch.rf (fun t ht => absurd ht (Nat.not_lt_zero t))
  · have h' := h.ch hA cc
    obtain ⟨τ', a1, a2⟩ := down (kt_nd (ka_T A)) (Nat.le_refl _) kf_F (kf_F_gt (by omega)) τ cc (fun e he t ht' => by
      obtain rfl : e = 0 := by omega
      exact ht t ht')
    refine ⟨τ', ?_, a2⟩
    show f_X5_findBest_2_s _ 70 (nI 32) τ = _
    unfold f_X5_findBest_2_s
    rw [if_pos (by decide)]
    simp (disch := omega) only [↓reduceIte, kz_lt, Option.bind_some, kz_ix, kz_leT, kz_leF, kz_ltT, kz_ltF, kz_lt0, kz_0le, kz_0ltT, kz_le0F, kz_eq0F, kz_10, kz_00, kz_11, kz_01, nI_clamp, nI_1, nI_add, pk_mul, kc0, kc1, kc2, kc3, kc4, kc5, kc6, kc7, kc8, kc9, kc10, kx0, kx1, kx2, kx3, kx4, kx5, kx6, kx7, kx8, kr0_0, kr0_1, kr0_2, kr0_3, kr0_4, kr0_5, kr0_6, kr0_7, kr0_8, kr0_9, kr1_1, kr1_2, kr1_3, kr1_4, kr1_5, kr7_6, kr7_7, kr7_8, kr7_9, kr7_10, kr7_11, kr7_12, kr7_13, kr7_14, kr7_15, kr7_16, kr16_1, kr16_2, kr19_1, kr19_2, kr22_1, kr22_2, kr25_6, kr25_7, kr25_8, kr25_9, kr25_10, kr25_11, kr25_12, kr25_13, kr25_14, kr25_15, kr25_16, kr34_1, kr34_2, kr37_1, kr37_2, kr40_1, kr40_2, kr43_2, kr43_3, kr44_0, kr44_1, kr44_4, kr46_0, kr48_0, kr50_0, kr52_0, kr54_0, kr56_0, kr60_3, kr60_4, kr63_0, kr63_1, kr63_2, kr66_0, kr66_1, kr66_2, kr66_3, kr66_4, kr67_0, kr70_0, kr70_1, kr70_2, kr72_1, kr72_2, kr72_3, kr72_4, kr72_5, kr72_6, kr72_7, kl2, kl3, kl4, kl5, kl6, kl8, kl9, kl10, kl11, kl12, kl13, kl14, kl15, kl17, kl18, kl20, kl21, kl23, kl24, kl26, kl27, kl28, kl29, kl30, kl31, kl32, kl33, kl35, kl36, kl38, kl39, kl41, kl42, kl45, kl47, kl49, kl51, kl53, kl55, kl57, kl58, kl59, kl61, kl62, kl64, kl65, kl68, kl69, kl71, kl73, kl74, kl75, kl76, h'.1.1.1]
    exact a1
  · have h' := h.ch hA cc
    obtain ⟨τ', r1, r2⟩ := ih (kf_wi τ 71 (kt_nd (ka_T A) * 32 + i) 0) (kp_ch.wi (S := kp_xC) cc (by unfold kp_xC; omega)) (fun t ht' => by
      by_cases b : t = i
      · rw [b, kp_wi_same]
      · rw [kp_wi_col (by omega)]; exact ht t (by omega))
    refine ⟨τ', ?_, r2⟩
    show f_X5_findBest_2_s _ 70 (nI i) τ = _
    unfold f_X5_findBest_2_s
    have c32 : ((32 : Int32) ≤ nI i) = False := kz_leF (a := 32) hi (by decide)
    simp (disch := omega) only [↓reduceIte, kz_lt, Option.bind_some, kz_ix, kz_leT, kz_leF, kz_ltT, kz_ltF, kz_lt0, kz_0le, kz_0ltT, kz_le0F, kz_eq0F, kz_10, kz_00, kz_11, kz_01, nI_clamp, nI_1, nI_add, pk_mul, kc0, kc1, kc2, kc3, kc4, kc5, kc6, kc7, kc8, kc9, kc10, kx0, kx1, kx2, kx3, kx4, kx5, kx6, kx7, kx8, kr0_0, kr0_1, kr0_2, kr0_3, kr0_4, kr0_5, kr0_6, kr0_7, kr0_8, kr0_9, kr1_1, kr1_2, kr1_3, kr1_4, kr1_5, kr7_6, kr7_7, kr7_8, kr7_9, kr7_10, kr7_11, kr7_12, kr7_13, kr7_14, kr7_15, kr7_16, kr16_1, kr16_2, kr19_1, kr19_2, kr22_1, kr22_2, kr25_6, kr25_7, kr25_8, kr25_9, kr25_10, kr25_11, kr25_12, kr25_13, kr25_14, kr25_15, kr25_16, kr34_1, kr34_2, kr37_1, kr37_2, kr40_1, kr40_2, kr43_2, kr43_3, kr44_0, kr44_1, kr44_4, kr46_0, kr48_0, kr50_0, kr52_0, kr54_0, kr56_0, kr60_3, kr60_4, kr63_0, kr63_1, kr63_2, kr66_0, kr66_1, kr66_2, kr66_3, kr66_4, kr67_0, kr70_0, kr70_1, kr70_2, kr72_1, kr72_2, kr72_3, kr72_4, kr72_5, kr72_6, kr72_7, kl2, kl3, kl4, kl5, kl6, kl8, kl9, kl10, kl11, kl12, kl13, kl14, kl15, kl17, kl18, kl20, kl21, kl23, kl24, kl26, kl27, kl28, kl29, kl30, kl31, kl32, kl33, kl35, kl36, kl38, kl39, kl41, kl42, kl45, kl47, kl49, kl51, kl53, kl55, kl57, kl58, kl59, kl61, kl62, kl64, kl65, kl68, kl69, kl71, kl73, kl74, kl75, kl76, c32, h'.1.1.1, k32]
    exact r1
/-- which callers are best for a door, of those that are free -/
def kp_pg (A : kp_A) (d t : Nat) : Nat → Bool := fun c => decide (kp_bt t c = 0) && decide (kp_U A d c + kp_LL (kt_nd (ka_T A)) (kp_U A) (kt_nc (ka_T A)) (kt_nd (ka_T A) - (d + 1)) (t + 2 ^ c) = kp_LL (kt_nd (ka_T A)) (kp_U A) (kt_nc (ka_T A)) (kt_nd (ka_T A) - d) t)
def kp_pf (A : kp_A) (d t : Nat) : Nat := kp_fn (kp_pg A d t) (kt_nc (ka_T A) - 0) 0
def kp_pI (nc r : Nat) : Int32 := if r < nc then nI r else -2
theorem kp_pg_t {A : kp_A} {d t c : Nat} : kp_pg A d t c = true ↔ kp_bt t c = 0 ∧ kp_U A d c + kp_LL (kt_nd (ka_T A)) (kp_U A) (kt_nc (ka_T A)) (kt_nd (ka_T A) - (d + 1)) (t + 2 ^ c) = kp_LL (kt_nd (ka_T A)) (kp_U A) (kt_nc (ka_T A)) (kt_nd (ka_T A) - d) t := by
  unfold kp_pg
  rw [Bool.and_eq_true, decide_eq_true_iff, decide_eq_true_iff]
theorem kC_paf {A : kp_A} {k : Nat} (hA : kp_Aok A k) {σ : kf_St} (h : kp_Cr A σ) {d t : Nat} (ht : t < 32) (hd : d < kt_nd (ka_T A)) (tb : kp_tC A (kt_nd (ka_T A)) σ) : f_X5_partnerAmongFree 70 (nI d) (nI t) σ = some (kp_pI (kt_nc (ka_T A)) (kp_pf A d t), σ) := by
  have h6 := hA.1.1.1
  have h5 := hA.1.1.2.1
  have k32 : ∀ a, nI a * 32 = nI (a * 32) := fun a => pk_mul a 32
  unfold f_X5_partnerAmongFree kp_pf
  refine kp_run (n := kt_nc (ka_T A)) (fun i f => f_X5_partnerAmongFree_2 f 70 (nI d) (nI t) (nI i) σ = some (kp_pI (kt_nc (ka_T A)) (kp_fn (kp_pg A d t) (kt_nc (ka_T A) - i) i), σ)) (by omega) (fun f => ?_) (fun i hi f ih => ?_)
  · show f_X5_partnerAmongFree_2_s _ 70 _ _ (nI (kt_nc (ka_T A))) σ = _
    unfold f_X5_partnerAmongFree_2_s
    simp (disch := omega) only [↓reduceIte, kz_lt, Option.bind_some, kz_ix, kz_leT, kz_leF, kz_ltT, kz_ltF, kz_lt0, kz_0le, kz_0ltT, kz_le0F, kz_eq0F, kz_10, kz_00, kz_11, kz_01, nI_clamp, nI_1, nI_add, pk_mul, kc0, kc1, kc2, kc3, kc4, kc5, kc6, kc7, kc8, kc9, kc10, kx0, kx1, kx2, kx3, kx4, kx5, kx6, kx7, kx8, kr0_0, kr0_1, kr0_2, kr0_3, kr0_4, kr0_5, kr0_6, kr0_7, kr0_8, kr0_9, kr1_1, kr1_2, kr1_3, kr1_4, kr1_5, kr7_6, kr7_7, kr7_8, kr7_9, kr7_10, kr7_11, kr7_12, kr7_13, kr7_14, kr7_15, kr7_16, kr16_1, kr16_2, kr19_1, kr19_2, kr22_1, kr22_2, kr25_6, kr25_7, kr25_8, kr25_9, kr25_10, kr25_11, kr25_12, kr25_13, kr25_14, kr25_15, kr25_16, kr34_1, kr34_2, kr37_1, kr37_2, kr40_1, kr40_2, kr43_2, kr43_3, kr44_0, kr44_1, kr44_4, kr46_0, kr48_0, kr50_0, kr52_0, kr54_0, kr56_0, kr60_3, kr60_4, kr63_0, kr63_1, kr63_2, kr66_0, kr66_1, kr66_2, kr66_3, kr66_4, kr67_0, kr70_0, kr70_1, kr70_2, kr72_1, kr72_2, kr72_3, kr72_4, kr72_5, kr72_6, kr72_7, kl2, kl3, kl4, kl5, kl6, kl8, kl9, kl10, kl11, kl12, kl13, kl14, kl15, kl17, kl18, kl20, kl21, kl23, kl24, kl26, kl27, kl28, kl29, kl30, kl31, kl32, kl33, kl35, kl36, kl38, kl39, kl41, kl42, kl45, kl47, kl49, kl51, kl53, kl55, kl57, kl58, kl59, kl61, kl62, kl64, kl65, kl68, kl69, kl71, kl73, kl74, kl75, kl76, h.1.1.2.1]
    rw [Nat.sub_self]
    unfold kp_pI kp_fn
    rw [if_neg (Nat.lt_irrefl _)]
  · show f_X5_partnerAmongFree_2_s _ 70 _ _ (nI i) σ = _
    unfold f_X5_partnerAmongFree_2_s f_X5_partnerAmongFree_26 f_X5_partnerAmongFree_56
    have b2 : kp_bt t i < 2 := Nat.mod_lt _ (by decide)
    have bb := kp_bit (K := t) (r := i) (by omega) (by omega)
    rw [kp_fn_s hi]
    by_cases b : kp_bt t i = 0
    · have sw := kC_sw hA h (e := kt_nd (ka_T A) - (d + 1)) ht (by omega) hi b (fun e he t ht => tb e (by omega) t ht)
      rw [show kt_nd (ka_T A) - (kt_nd (ka_T A) - (d + 1) + 1) = d by omega] at sw
      have tv := tb (kt_nd (ka_T A) - d) (by omega) t ht
      rw [show kt_nd (ka_T A) - (kt_nd (ka_T A) - d) = d by omega] at tv
      have l1 := kp_LLb hA (e := kt_nd (ka_T A) - (d + 1)) (by omega) (t + 2 ^ i)
      have l2 := kp_LLb hA (e := kt_nd (ka_T A) - d) (by omega) t
      have u2 := (kp_U_n hA hd hi).2
      rw [b] at bb
      simp (disch := omega) only [↓reduceIte, kz_lt, Option.bind_some, kz_ix, kz_leT, kz_leF, kz_ltT, kz_ltF, kz_lt0, kz_0le, kz_0ltT, kz_le0F, kz_eq0F, kz_10, kz_00, kz_11, kz_01, nI_clamp, nI_1, nI_add, pk_mul, kc0, kc1, kc2, kc3, kc4, kc5, kc6, kc7, kc8, kc9, kc10, kx0, kx1, kx2, kx3, kx4, kx5, kx6, kx7, kx8, kr0_0, kr0_1, kr0_2, kr0_3, kr0_4, kr0_5, kr0_6, kr0_7, kr0_8, kr0_9, kr1_1, kr1_2, kr1_3, kr1_4, kr1_5, kr7_6, kr7_7, kr7_8, kr7_9, kr7_10, kr7_11, kr7_12, kr7_13, kr7_14, kr7_15, kr7_16, kr16_1, kr16_2, kr19_1, kr19_2, kr22_1, kr22_2, kr25_6, kr25_7, kr25_8, kr25_9, kr25_10, kr25_11, kr25_12, kr25_13, kr25_14, kr25_15, kr25_16, kr34_1, kr34_2, kr37_1, kr37_2, kr40_1, kr40_2, kr43_2, kr43_3, kr44_0, kr44_1, kr44_4, kr46_0, kr48_0, kr50_0, kr52_0, kr54_0, kr56_0, kr60_3, kr60_4, kr63_0, kr63_1, kr63_2, kr66_0, kr66_1, kr66_2, kr66_3, kr66_4, kr67_0, kr70_0, kr70_1, kr70_2, kr72_1, kr72_2, kr72_3, kr72_4, kr72_5, kr72_6, kr72_7, kl2, kl3, kl4, kl5, kl6, kl8, kl9, kl10, kl11, kl12, kl13, kl14, kl15, kl17, kl18, kl20, kl21, kl23, kl24, kl26, kl27, kl28, kl29, kl30, kl31, kl32, kl33, kl35, kl36, kl38, kl39, kl41, kl42, kl45, kl47, kl49, kl51, kl53, kl55, kl57, kl58, kl59, kl61, kl62, kl64, kl65, kl68, kl69, kl71, kl73, kl74, kl75, kl76, h.1.1.2.1, bb, sw, k32, tv]
      rw [if_pos (show nI 0 = 0 from rfl)]
      by_cases g : kp_pg A d t i = true
      · rw [if_pos g, if_pos (congrArg nI (kp_pg_t.mp g).2)]
        unfold kp_pI
        rw [if_pos hi]
      · rw [if_neg g, if_neg (fun e => g (kp_pg_t.mpr ⟨b, (nI_eq (by omega) (by omega)).mp e⟩))]
        exact ih
    · have nb : (nI (kp_bt t i) = 0) = False := kz_eq0F (by omega) (by omega)
      rw [if_neg (fun g => b (kp_pg_t.mp g).1)]
      simp (disch := omega) only [↓reduceIte, kz_lt, Option.bind_some, kz_ix, kz_leT, kz_leF, kz_ltT, kz_ltF, kz_lt0, kz_0le, kz_0ltT, kz_le0F, kz_eq0F, kz_10, kz_00, kz_11, kz_01, nI_clamp, nI_1, nI_add, pk_mul, kc0, kc1, kc2, kc3, kc4, kc5, kc6, kc7, kc8, kc9, kc10, kx0, kx1, kx2, kx3, kx4, kx5, kx6, kx7, kx8, kr0_0, kr0_1, kr0_2, kr0_3, kr0_4, kr0_5, kr0_6, kr0_7, kr0_8, kr0_9, kr1_1, kr1_2, kr1_3, kr1_4, kr1_5, kr7_6, kr7_7, kr7_8, kr7_9, kr7_10, kr7_11, kr7_12, kr7_13, kr7_14, kr7_15, kr7_16, kr16_1, kr16_2, kr19_1, kr19_2, kr22_1, kr22_2, kr25_6, kr25_7, kr25_8, kr25_9, kr25_10, kr25_11, kr25_12, kr25_13, kr25_14, kr25_15, kr25_16, kr34_1, kr34_2, kr37_1, kr37_2, kr40_1, kr40_2, kr43_2, kr43_3, kr44_0, kr44_1, kr44_4, kr46_0, kr48_0, kr50_0, kr52_0, kr54_0, kr56_0, kr60_3, kr60_4, kr63_0, kr63_1, kr63_2, kr66_0, kr66_1, kr66_2, kr66_3, kr66_4, kr67_0, kr70_0, kr70_1, kr70_2, kr72_1, kr72_2, kr72_3, kr72_4, kr72_5, kr72_6, kr72_7, kl2, kl3, kl4, kl5, kl6, kl8, kl9, kl10, kl11, kl12, kl13, kl14, kl15, kl17, kl18, kl20, kl21, kl23, kl24, kl26, kl27, kl28, kl29, kl30, kl31, kl32, kl33, kl35, kl36, kl38, kl39, kl41, kl42, kl45, kl47, kl49, kl51, kl53, kl55, kl57, kl58, kl59, kl61, kl62, kl64, kl65, kl68, kl69, kl71, kl73, kl74, kl75, kl76, h.1.1.2.1, bb, nb]
      exact ih
/-- who is taken ahead of a door -/
def kp_tk (A : kp_A) : Nat → Nat
  | 0 => 0
  | d + 1 => if kp_pf A d (kp_tk A d) < kt_nc (ka_T A) then kp_tk A d + 2 ^ kp_pf A d (kp_tk A d) else kp_tk A d
theorem kp_tk_s (A : kp_A) (d : Nat) : kp_tk A (d + 1) = if kp_pf A d (kp_tk A d) < kt_nc (ka_T A) then kp_tk A d + 2 ^ kp_pf A d (kp_tk A d) else kp_tk A d := rfl
theorem kp_pf_g {A : kp_A} {d t : Nat} (h : kp_pf A d t < kt_nc (ka_T A)) : kp_bt t (kp_pf A d t) = 0 := by
  rcases kp_fn_i (kp_pg A d t) (kt_nc (ka_T A) - 0) 0 with e | ⟨-, e⟩
  · exact absurd h (by show ¬ kp_fn (kp_pg A d t) (kt_nc (ka_T A) - 0) 0 < _; omega)
  · exact (kp_pg_t.mp e).1
theorem kp_tk_lt {A : kp_A} {k : Nat} (hA : kp_Aok A k) : ∀ d, kp_tk A d < 32
  | 0 => by show 0 < 32; decide
  | d + 1 => by
    have h5 := hA.1.1.2.1
    have ih := kp_tk_lt hA d
    rw [kp_tk_s]
    by_cases b : kp_pf A d (kp_tk A d) < kt_nc (ka_T A)
    · rw [if_pos b]
      exact (kp_or5 _ ih _ (by omega) (kp_pf_g b)).2
    · rw [if_neg b]; exact ih
theorem kp_pfv {A : kp_A} {k : Nat} (hA : kp_Aok A k) (d t : Nat) : (kp_pf A d t < kt_nc (ka_T A) ∧ kp_pI (kt_nc (ka_T A)) (kp_pf A d t) = nI (kp_pf A d t)) ∨ (¬ kp_pf A d t < kt_nc (ka_T A) ∧ kp_pI (kt_nc (ka_T A)) (kp_pf A d t) = -2) := by
  unfold kp_pI
  by_cases b : kp_pf A d t < kt_nc (ka_T A)
  · exact Or.inl ⟨b, if_pos b⟩
  · exact Or.inr ⟨b, if_neg b⟩
theorem kC_pof {A : kp_A} {k : Nat} (hA : kp_Aok A k) {σ : kf_St} (h : kp_Cr A σ) {w : Nat} (hw : w < kt_nd (ka_T A)) (tb : kp_tC A (kt_nd (ka_T A)) σ) : f_X5_partnerOf 70 (nI w) σ = some (kp_pI (kt_nc (ka_T A)) (kp_pf A w (kp_tk A w)), σ) := by
  have h6 := hA.1.1.1
  have h5 := hA.1.1.2.1
  unfold f_X5_partnerOf
  have main := kp_run (n := w + 1) (fun i f => ∀ p, (i = w + 1 → p = kp_pI (kt_nc (ka_T A)) (kp_pf A w (kp_tk A w))) → f_X5_partnerOf_8 f 70 (nI w) (nI (kp_tk A i)) p (nI i) σ = some (kp_pI (kt_nc (ka_T A)) (kp_pf A w (kp_tk A w)), σ)) (by omega) (fun f p hp => ?_) (fun i hi f ih p _ => ?_)
  · exact main (-2) (fun e => absurd e (by omega))
  · rw [← hp rfl]
    show f_X5_partnerOf_8_s _ 70 (nI w) _ _ (nI (w + 1)) σ = _
    unfold f_X5_partnerOf_8_s
    rw [if_pos (nI_lt (by omega) (by omega))]
  · have t32 := kp_tk_lt hA i
    have paf := kC_paf hA h t32 (show i < kt_nd (ka_T A) by omega) tb
    have ihn := ih (kp_pI (kt_nc (ka_T A)) (kp_pf A i (kp_tk A i))) (fun e => by rw [show i = w by omega])
    rw [kp_tk_s] at ihn
    show f_X5_partnerOf_8_s _ 70 (nI w) _ _ (nI i) σ = _
    unfold f_X5_partnerOf_8_s f_X5_partnerOf_46
    rcases kp_pfv hA i (kp_tk A i) with ⟨e1, e2⟩ | ⟨e1, e2⟩
    · rw [e2] at paf ihn
      rw [if_pos e1] at ihn
      have o := (kp_or5 _ t32 _ (by omega) (kp_pf_g e1)).1
      simp (disch := omega) only [↓reduceIte, kz_lt, Option.bind_some, kz_ix, kz_leT, kz_leF, kz_ltT, kz_ltF, kz_lt0, kz_0le, kz_0ltT, kz_le0F, kz_eq0F, kz_10, kz_00, kz_11, kz_01, nI_clamp, nI_1, nI_add, pk_mul, kc0, kc1, kc2, kc3, kc4, kc5, kc6, kc7, kc8, kc9, kc10, kx0, kx1, kx2, kx3, kx4, kx5, kx6, kx7, kx8, kr0_0, kr0_1, kr0_2, kr0_3, kr0_4, kr0_5, kr0_6, kr0_7, kr0_8, kr0_9, kr1_1, kr1_2, kr1_3, kr1_4, kr1_5, kr7_6, kr7_7, kr7_8, kr7_9, kr7_10, kr7_11, kr7_12, kr7_13, kr7_14, kr7_15, kr7_16, kr16_1, kr16_2, kr19_1, kr19_2, kr22_1, kr22_2, kr25_6, kr25_7, kr25_8, kr25_9, kr25_10, kr25_11, kr25_12, kr25_13, kr25_14, kr25_15, kr25_16, kr34_1, kr34_2, kr37_1, kr37_2, kr40_1, kr40_2, kr43_2, kr43_3, kr44_0, kr44_1, kr44_4, kr46_0, kr48_0, kr50_0, kr52_0, kr54_0, kr56_0, kr60_3, kr60_4, kr63_0, kr63_1, kr63_2, kr66_0, kr66_1, kr66_2, kr66_3, kr66_4, kr67_0, kr70_0, kr70_1, kr70_2, kr72_1, kr72_2, kr72_3, kr72_4, kr72_5, kr72_6, kr72_7, kl2, kl3, kl4, kl5, kl6, kl8, kl9, kl10, kl11, kl12, kl13, kl14, kl15, kl17, kl18, kl20, kl21, kl23, kl24, kl26, kl27, kl28, kl29, kl30, kl31, kl32, kl33, kl35, kl36, kl38, kl39, kl41, kl42, kl45, kl47, kl49, kl51, kl53, kl55, kl57, kl58, kl59, kl61, kl62, kl64, kl65, kl68, kl69, kl71, kl73, kl74, kl75, kl76, h.1.1.1, paf, o]
      exact ihn
    · rw [e2] at paf ihn
      rw [if_neg e1] at ihn
      have z : ((0 : Int32) ≤ -2) = False := eq_false (by decide)
      simp (disch := omega) only [↓reduceIte, kz_lt, Option.bind_some, kz_ix, kz_leT, kz_leF, kz_ltT, kz_ltF, kz_lt0, kz_0le, kz_0ltT, kz_le0F, kz_eq0F, kz_10, kz_00, kz_11, kz_01, nI_clamp, nI_1, nI_add, pk_mul, kc0, kc1, kc2, kc3, kc4, kc5, kc6, kc7, kc8, kc9, kc10, kx0, kx1, kx2, kx3, kx4, kx5, kx6, kx7, kx8, kr0_0, kr0_1, kr0_2, kr0_3, kr0_4, kr0_5, kr0_6, kr0_7, kr0_8, kr0_9, kr1_1, kr1_2, kr1_3, kr1_4, kr1_5, kr7_6, kr7_7, kr7_8, kr7_9, kr7_10, kr7_11, kr7_12, kr7_13, kr7_14, kr7_15, kr7_16, kr16_1, kr16_2, kr19_1, kr19_2, kr22_1, kr22_2, kr25_6, kr25_7, kr25_8, kr25_9, kr25_10, kr25_11, kr25_12, kr25_13, kr25_14, kr25_15, kr25_16, kr34_1, kr34_2, kr37_1, kr37_2, kr40_1, kr40_2, kr43_2, kr43_3, kr44_0, kr44_1, kr44_4, kr46_0, kr48_0, kr50_0, kr52_0, kr54_0, kr56_0, kr60_3, kr60_4, kr63_0, kr63_1, kr63_2, kr66_0, kr66_1, kr66_2, kr66_3, kr66_4, kr67_0, kr70_0, kr70_1, kr70_2, kr72_1, kr72_2, kr72_3, kr72_4, kr72_5, kr72_6, kr72_7, kl2, kl3, kl4, kl5, kl6, kl8, kl9, kl10, kl11, kl12, kl13, kl14, kl15, kl17, kl18, kl20, kl21, kl23, kl24, kl26, kl27, kl28, kl29, kl30, kl31, kl32, kl33, kl35, kl36, kl38, kl39, kl41, kl42, kl45, kl47, kl49, kl51, kl53, kl55, kl57, kl58, kl59, kl61, kl62, kl64, kl65, kl68, kl69, kl71, kl73, kl74, kl75, kl76, h.1.1.1, paf, z, Int32.or_zero]
      exact ihn
