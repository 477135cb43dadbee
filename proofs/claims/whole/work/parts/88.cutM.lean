/-! ===== pure: the reference cuts its text ===== -/
def kx_km (k : Nat) : Nat := if k = 0 then 0 else if k = 1 then 3 else if k = 2 then 1 else if k = 3 then 2 else if k = 59 then 4 else if k = 61 then 5 else if k = 40 then 6 else if k = 41 then 7 else if k = 43 then 8 else if k = 45 then 9 else if k = 42 then 10 else if k = 60 then 13 else if k = 47 then 15 else k - 236
def kx_TM (X : kx_X) (σ : kf_St) : Prop := X.1 ≤ 2000 ∧ σ.1 77 4 = nI X.1 ∧ (∀ i, i < X.1 → σ.1 79 i &&& 255 = nI (X.2 i)) ∧ (∀ i, X.2 i < 256) ∧ (∀ k, k < 21 → σ.2 84 k = kf_codes k)
theorem kx_TM.fr {X : kx_X} {σ τ : kf_St} {P Q : Nat → Nat → Prop} (h : kx_TM X σ) (c : kx_fr P Q σ τ) (h1 : ¬ P 77 4) (h2 : ∀ j, ¬ P 79 j) (h3 : ∀ j, ¬ Q 84 j) : kx_TM X τ := ⟨h.1, by rw [c.1 77 4 h1]; exact h.2.1, fun i hi => by rw [c.1 79 i (h2 i)]; exact h.2.2.1 i hi, h.2.2.2.1, fun k hk => by rw [c.2 84 k (h3 k)]; exact h.2.2.2.2 k hk⟩
theorem kM_byt {X : kx_X} {σ : kf_St} (h : kx_TM X σ) {i : Nat} (hi : i ≤ 5000) : f_X12_byteAt 77 (nI i) σ = some (if i < X.1 then nI (X.2 i) else nI 0, σ) := by
  have hl := h.1
  unfold f_X12_byteAt
  by_cases b : i < X.1
  · rw [if_pos b]
    simp (disch := omega) only [↓reduceIte, kz_lt, Option.bind_some, kz_ix, kz_leT, kz_leF, kz_ltT, kz_ltF, kz_lt0, kz_0le, kz_0ltT, kz_le0F, kz_eq0F, kz_10, kz_00, kz_11, kz_01, nI_clamp, nI_1, nI_add, pk_mul, kc0, kc1, kc2, kc3, kc4, kc5, kc6, kc7, kc8, kc9, kc10, kx0, kx1, kx2, kx3, kx4, kx5, kx6, kx7, kx8, kr77_1, kr77_3, kr77_5, kr77_6, kr77_7, kr77_8, kr77_9, kr77_21, kr77_22, kr77_23, kr77_24, kr77_25, kr77_26, kr77_27, kr77_28, kr77_29, kr77_30, kr77_31, kr77_32, kr77_33, kr77_34, kr77_35, kr77_36, kr77_38, kr77_39, kr77_40, kr77_41, kr77_42, kr77_44, kr77_45, kr77_46, kr77_48, kr77_49, kr77_51, kr77_52, kr77_55, kr77_57, kr77_58, kr77_59, kr77_61, kr77_62, kr77_63, kr77_64, kr77_65, kl78, kl79, kl80, kl81, kl82, kl83, kl84, kl85, kl86, kl87, kl88, kl89, kl90, kl91, kl92, kl93, kl94, kl95, kl96, kl97, kl98, kl99, kl100, kl101, kl102, kl103, kl104, kl105, kl106, kl107, kl108, kl109, kl110, kl111, kl112, kl113, kl114, kl115, kl116, kl117, kl118, kl119, kl120, kl121, h.2.1, h.2.2.1 i b]
  · rw [if_neg b]
    simp (disch := omega) only [↓reduceIte, kz_lt, Option.bind_some, kz_ix, kz_leT, kz_leF, kz_ltT, kz_ltF, kz_lt0, kz_0le, kz_0ltT, kz_le0F, kz_eq0F, kz_10, kz_00, kz_11, kz_01, nI_clamp, nI_1, nI_add, pk_mul, kc0, kc1, kc2, kc3, kc4, kc5, kc6, kc7, kc8, kc9, kc10, kx0, kx1, kx2, kx3, kx4, kx5, kx6, kx7, kx8, kr77_1, kr77_3, kr77_5, kr77_6, kr77_7, kr77_8, kr77_9, kr77_21, kr77_22, kr77_23, kr77_24, kr77_25, kr77_26, kr77_27, kr77_28, kr77_29, kr77_30, kr77_31, kr77_32, kr77_33, kr77_34, kr77_35, kr77_36, kr77_38, kr77_39, kr77_40, kr77_41, kr77_42, kr77_44, kr77_45, kr77_46, kr77_48, kr77_49, kr77_51, kr77_52, kr77_55, kr77_57, kr77_58, kr77_59, kr77_61, kr77_62, kr77_63, kr77_64, kr77_65, kl78, kl79, kl80, kl81, kl82, kl83, kl84, kl85, kl86, kl87, kl88, kl89, kl90, kl91, kl92, kl93, kl94, kl95, kl96, kl97, kl98, kl99, kl100, kl101, kl102, kl103, kl104, kl105, kl106, kl107, kl108, kl109, kl110, kl111, kl112, kl113, kl114, kl115, kl116, kl117, kl118, kl119, kl120, kl121, h.2.1]
    rfl
def kx_mP (a b : Nat) : Prop := (a = 77 ∧ b = 10) ∨ a = 80 ∨ a = 81 ∨ a = 82
def kx_mQ (a b : Nat) : Prop := a = 83
theorem kx_TM.t {X : kx_X} {σ τ : kf_St} (h : kx_TM X σ) (c : kx_fr kx_mP kx_mQ σ τ) : kx_TM X τ := h.fr c (by unfold kx_mP; omega) (fun j => by unfold kx_mP; omega) (fun j => by unfold kx_mQ; omega)
def kx_tm (σ : kf_St) (n : Nat) (k w v : Int32) (nm : Int64) : kf_St := kf_wi (kf_wl (kf_wi (kf_wi (kf_wi σ 80 n k) 81 n w) 82 n v) 83 n nm) 77 10 (nI (n + 1))
theorem kM_tok {σ : kf_St} {n : Nat} (hn : n ≤ 400) (e : σ.1 77 10 = nI n) (k w v : Int32) (nm : Int64) : f_X12_token 77 k w v nm σ = some (kx_tm σ n k w v nm) := by
  unfold f_X12_token
  simp (disch := omega) only [↓reduceIte, kz_lt, Option.bind_some, kz_ix, kz_leT, kz_leF, kz_ltT, kz_ltF, kz_lt0, kz_0le, kz_0ltT, kz_le0F, kz_eq0F, kz_10, kz_00, kz_11, kz_01, nI_clamp, nI_1, nI_add, pk_mul, kc0, kc1, kc2, kc3, kc4, kc5, kc6, kc7, kc8, kc9, kc10, kx0, kx1, kx2, kx3, kx4, kx5, kx6, kx7, kx8, kr77_1, kr77_3, kr77_5, kr77_6, kr77_7, kr77_8, kr77_9, kr77_21, kr77_22, kr77_23, kr77_24, kr77_25, kr77_26, kr77_27, kr77_28, kr77_29, kr77_30, kr77_31, kr77_32, kr77_33, kr77_34, kr77_35, kr77_36, kr77_38, kr77_39, kr77_40, kr77_41, kr77_42, kr77_44, kr77_45, kr77_46, kr77_48, kr77_49, kr77_51, kr77_52, kr77_55, kr77_57, kr77_58, kr77_59, kr77_61, kr77_62, kr77_63, kr77_64, kr77_65, kl78, kl79, kl80, kl81, kl82, kl83, kl84, kl85, kl86, kl87, kl88, kl89, kl90, kl91, kl92, kl93, kl94, kl95, kl96, kl97, kl98, kl99, kl100, kl101, kl102, kl103, kl104, kl105, kl106, kl107, kl108, kl109, kl110, kl111, kl112, kl113, kl114, kl115, kl116, kl117, kl118, kl119, kl120, kl121, e, kz_row, kp_wl_1]
  rfl
theorem kx_tm_fr (σ : kf_St) (n : Nat) (k w v : Int32) (nm : Int64) : kx_fr kx_mP kx_mQ σ (kx_tm σ n k w v nm) := by
  unfold kx_tm
  exact ((((kx_fr.rf.wi (by unfold kx_mP; omega)).wi (by unfold kx_mP; omega)).wi (by unfold kx_mP; omega)).wl (by unfold kx_mQ; omega)).wi (by unfold kx_mP; omega)
theorem kx_tm_at (σ : kf_St) (n : Nat) (k w v : Int32) (nm : Int64) : (kx_tm σ n k w v nm).1 80 n = k ∧ (kx_tm σ n k w v nm).1 81 n = w ∧ (kx_tm σ n k w v nm).1 82 n = v ∧ (kx_tm σ n k w v nm).2 83 n = nm ∧ (kx_tm σ n k w v nm).1 77 10 = nI (n + 1) := by
  unfold kx_tm
  refine ⟨?_, ?_, ?_, ?_, kp_wi_same _ _ _ _⟩
  · rw [kp_wi_ne (by omega), kp_wl_1, kp_wi_ne (by omega), kp_wi_ne (by omega), kp_wi_same]
  · rw [kp_wi_ne (by omega), kp_wl_1, kp_wi_ne (by omega), kp_wi_same]
  · rw [kp_wi_ne (by omega), kp_wl_1, kp_wi_same]
  · exact kp_wl_same _ 83 n nm
theorem kx_tm_ne (σ : kf_St) {n j : Nat} (h : j ≠ n) (k w v : Int32) (nm : Int64) : (kx_tm σ n k w v nm).1 80 j = σ.1 80 j ∧ (kx_tm σ n k w v nm).1 81 j = σ.1 81 j ∧ (kx_tm σ n k w v nm).1 82 j = σ.1 82 j ∧ (kx_tm σ n k w v nm).2 83 j = σ.2 83 j := by
  unfold kx_tm
  refine ⟨?_, ?_, ?_, ?_⟩
  · rw [kp_wi_ne (by omega), kp_wl_1, kp_wi_ne (by omega), kp_wi_ne (by omega), kp_wi_ne (by omega)]
  · rw [kp_wi_ne (by omega), kp_wl_1, kp_wi_ne (by omega), kp_wi_ne (by omega), kp_wi_ne (by omega)]
  · rw [kp_wi_ne (by omega), kp_wl_1, kp_wi_ne (by omega), kp_wi_ne (by omega), kp_wi_ne (by omega)]
  · show (kf_wl _ 83 n nm).2 83 j = _
    rw [kp_wl_ne (by omega)]
    rfl
/-! letters and digits, one more behind -/
theorem kx_wc_s (X : kx_X) : ∀ k i a, kx_wc X (k + 1) i a = (27 : Int64) * kx_wc X k i a + Int32.toInt64 ((nI (X.2 (i + k)) - 97) + 1)
  | 0, i, a => rfl
  | k + 1, i, a => by
    show kx_wc X (k + 1) (i + 1) _ = _
    rw [kx_wc_s X k (i + 1), show i + 1 + k = i + (k + 1) by omega]
    rfl
theorem kx_nv_s (X : kx_X) : ∀ k i a, kx_nv X (k + 1) i a = 10 * kx_nv X k i a + (X.2 (i + k) - 48)
  | 0, i, a => rfl
  | k + 1, i, a => by
    show kx_nv X (k + 1) (i + 1) _ = _
    rw [kx_nv_s X k (i + 1), show i + 1 + k = i + (k + 1) by omega]
    rfl
/-! the words' codes are unlike -/
def kx_cl : List Int64 := [90090, 43823259, 9876874, 3913426, 12322792, 316351, 459652, 279252, 377761, 249, 399641, 107681, 847604, 316163, 6559372, 180392, 2968, 118913, 309010280, 12387257, 269481550]
set_option maxRecDepth 100000 in
theorem kx_cl_all : ∀ k, k < 21 → kf_codes k = kx_cl.getD k 0 := by decide +kernel
theorem kx_cl_inj : ∀ a, a < 21 → ∀ b, b < 21 → kx_cl.getD a 0 = kx_cl.getD b 0 → a = b := by decide +kernel
theorem kx_codes_inj {a b : Nat} (ha : a < 21) (hb : b < 21) (h : kf_codes a = kf_codes b) : a = b := by
  rw [kx_cl_all a ha, kx_cl_all b hb] at h
  exact kx_cl_inj a ha b hb h
theorem kp_fn_min (g : Nat → Bool) : ∀ m i k, i ≤ k → k < kp_fn g m i → ¬ g k = true
  | 0, i, k, h1, h2 => by
    have : k < i := h2
    omega
  | m + 1, i, k, h1, h2 => by
    have h2 : k < (if g i then i else kp_fn g m (i + 1)) := h2
    by_cases b : g i = true
    · rw [if_pos b] at h2; omega
    · rw [if_neg b] at h2
      by_cases e : i = k
      · rw [← e]; exact b
      · exact kp_fn_min g m (i + 1) k (by omega) h2
theorem kx_kf_iff {v : Int64} {k : Nat} (hk : k < 21) : kf_codes k = v ↔ k = kx_kf v := by
  have hi := kp_fn_i (fun k => decide (kf_codes k = v)) (21 - 0) 0
  have hm := kp_fn_min (fun k => decide (kf_codes k = v)) (21 - 0) 0 k (Nat.zero_le _)
  show kf_codes k = v ↔ k = kp_fn (fun k => decide (kf_codes k = v)) (21 - 0) 0
  generalize kp_fn (fun k => decide (kf_codes k = v)) (21 - 0) 0 = r at hi hm
  constructor
  · intro e
    rcases hi with q | ⟨q1, q2⟩
    · exact absurd (decide_eq_true e) (hm (by omega))
    · exact kx_codes_inj hk (by omega) (e.trans (of_decide_eq_true q2).symm)
  · intro e
    subst e
    rcases hi with q | ⟨q1, q2⟩
    · omega
    · exact of_decide_eq_true q2
theorem kM_w146 {X : kx_X} {σ : kf_St} (h : kx_TM X σ) (rec : Nat → Int32 → kf_St → Option kf_St) (i m : Int32) (v : Int64) : f_X12_cut_146 rec kf_F 77 i m v 1 0 σ = f_X12_cut_179 rec 77 i m v (nI (kx_km (kx_kw v))) σ := by
  have fin : (if kx_kf v < 21 then 20 + kx_kf v else 1) = kx_km (kx_kw v) := by
    unfold kx_kw
    by_cases b : kx_kf v < 21
    · rw [if_pos b, if_pos b]
      generalize kx_kf v = r at b
      revert r
      decide +kernel
    · rw [if_neg b, if_neg b]; rfl
  rw [← fin]
  refine kp_run (n := 21) (fun k f => f_X12_cut_146 rec f 77 i m v (nI (if kx_kf v < k then 20 + kx_kf v else 1)) (nI k) σ = f_X12_cut_179 rec 77 i m v (nI (if kx_kf v < 21 then 20 + kx_kf v else 1)) σ) (by decide) (fun f => ?_) (fun k hk f ih => ?_)
  · show f_X12_cut_146_s _ _ 77 i m v _ (nI 21) σ = _
    unfold f_X12_cut_146_s
    exact if_pos (by decide)
  · show f_X12_cut_146_s _ _ 77 i m v _ (nI k) σ = _
    unfold f_X12_cut_146_s f_X12_cut_173
    have l21 : ((21 : Int32) ≤ nI k) = False := kz_leF (a := 21) hk (by decide)
    have k1 : (20 : Int32) + nI k = nI (20 + k) := nI_add 20 k
    simp (disch := omega) only [↓reduceIte, kz_lt, Option.bind_some, kz_ix, kz_leT, kz_leF, kz_ltT, kz_ltF, kz_lt0, kz_0le, kz_0ltT, kz_le0F, kz_eq0F, kz_10, kz_00, kz_11, kz_01, nI_clamp, nI_1, nI_add, pk_mul, kc0, kc1, kc2, kc3, kc4, kc5, kc6, kc7, kc8, kc9, kc10, kx0, kx1, kx2, kx3, kx4, kx5, kx6, kx7, kx8, kr77_1, kr77_3, kr77_5, kr77_6, kr77_7, kr77_8, kr77_9, kr77_21, kr77_22, kr77_23, kr77_24, kr77_25, kr77_26, kr77_27, kr77_28, kr77_29, kr77_30, kr77_31, kr77_32, kr77_33, kr77_34, kr77_35, kr77_36, kr77_38, kr77_39, kr77_40, kr77_41, kr77_42, kr77_44, kr77_45, kr77_46, kr77_48, kr77_49, kr77_51, kr77_52, kr77_55, kr77_57, kr77_58, kr77_59, kr77_61, kr77_62, kr77_63, kr77_64, kr77_65, kl78, kl79, kl80, kl81, kl82, kl83, kl84, kl85, kl86, kl87, kl88, kl89, kl90, kl91, kl92, kl93, kl94, kl95, kl96, kl97, kl98, kl99, kl100, kl101, kl102, kl103, kl104, kl105, kl106, kl107, kl108, kl109, kl110, kl111, kl112, kl113, kl114, kl115, kl116, kl117, kl118, kl119, kl120, kl121, l21, h.2.2.2.2 k hk, k1, lg_cmp_eq]
    by_cases b : kf_codes k = v
    · have e := (kx_kf_iff hk).mp b
      rw [if_pos b]
      rw [← e, if_pos (Nat.lt_succ_self k)] at ih
      rw [← e]
      exact ih
    · have e : ¬ k = kx_kf v := fun q => b ((kx_kf_iff hk).mpr q)
      rw [if_neg b]
      by_cases q : kx_kf v < k
      · rw [if_pos (show kx_kf v < k + 1 by omega)] at ih
        rw [if_pos q]; exact ih
      · rw [if_neg (show ¬ kx_kf v < k + 1 by omega)] at ih
        rw [if_neg q]; exact ih
theorem kM_word {X : kx_X} {σ : kf_St} (h : kx_TM X σ) (rec : Nat → Int32 → kf_St → Option kf_St) {i n : Nat} (hi : i < X.1) (hp : kx_le (X.2 i) = true) (hn : n ≤ 400) (en : σ.1 77 10 = nI n) : ∃ nm, f_X12_cut_85 rec kf_F 77 (nI i) 0 (0 : Int64) σ = rec 77 (nI (kx_en kx_le X i)) (kx_tm σ n (nI (kx_km (if kx_en kx_le X i - i ≤ 8 then kx_kw (kx_wc X (kx_en kx_le X i - i) i 0) else 1))) (nI i) 0 nm) ∧ (kx_en kx_le X i - i ≤ 8 → nm = kx_wc X (kx_en kx_le X i - i) i 0) := by
  have hl := h.1
  have g1 := kx_en_ge kx_le X i
  have g2 := kx_en_le (p := kx_le) (Nat.le_of_lt hi)
  refine kp_ind (n := kx_en kx_le X i - i) (P := fun k f => ∀ a, a = kx_wc X (min k 8) i 0 → ∃ nm, f_X12_cut_85 rec f 77 (nI i) (nI k) a σ = rec 77 (nI (kx_en kx_le X i)) (kx_tm σ n (nI (kx_km (if kx_en kx_le X i - i ≤ 8 then kx_kw (kx_wc X (kx_en kx_le X i - i) i 0) else 1))) (nI i) 0 nm) ∧ (kx_en kx_le X i - i ≤ 8 → nm = kx_wc X (kx_en kx_le X i - i) i 0)) (fun f a ea => ?_) (fun k hk f ih a ea => ?_) (kx_en kx_le X i - i) 0 (by omega) kf_F (kf_F_gt (by omega)) 0 rfl
  · have by1 := kM_byt h (i := i + (kx_en kx_le X i - i)) (by omega)
    have st := kx_en_st (p := kx_le) (X := X) (i := i)
    rw [show i + (kx_en kx_le X i - i) = kx_en kx_le X i by omega] at by1
    have nl : ∀ y, y < 256 → ¬ kx_le y = true → f_X12_isLetter (nI y) σ = some (0, σ) := fun y hy q => by rw [kx_isL_X12 hy, kx_b1f q]
    have byl : ∃ y, f_X12_byteAt 77 (nI (kx_en kx_le X i)) σ = some (nI y, σ) ∧ f_X12_isLetter (nI y) σ = some (0, σ) := by
      by_cases q : kx_en kx_le X i < X.1
      · rw [if_pos q] at by1
        exact ⟨_, by1, nl _ (h.2.2.2.1 _) (st q)⟩
      · rw [if_neg q] at by1
        exact ⟨_, by1, nl 0 (by decide) (by decide)⟩
    obtain ⟨y, y1, y2⟩ := byl
    have s1 : nI i + nI (kx_en kx_le X i - i) = nI (kx_en kx_le X i) := by rw [nI_add]; exact congrArg nI (by omega)
    refine ⟨a, ?_, fun q => by rw [ea, Nat.min_eq_left q]⟩
    show f_X12_cut_85_s _ _ 77 (nI i) (nI (kx_en kx_le X i - i)) a σ = _
    unfold f_X12_cut_85_s
    by_cases q : kx_en kx_le X i - i ≤ 8
    · rw [s1, y1, Option.bind_some]
      dsimp only
      rw [y2, Option.bind_some, if_pos rfl, if_pos (show nI _ ≤ (8 : Int32) from nI_le (b := 8) q (by decide))]
      unfold f_X12_cut_135
      rw [if_neg (show ¬ (8 : Int32) < nI _ from nI_nlt (a := 8) q (by decide)), kM_w146 h]
      unfold f_X12_cut_179
      rw [kM_tok hn en, Option.bind_some]
      simp only [kf_lt]
      rw [s1, if_pos q, ea, Nat.min_eq_left q]
    · rw [s1, y1, Option.bind_some]
      dsimp only
      rw [y2, Option.bind_some, if_pos rfl, if_neg (show ¬ nI _ ≤ (8 : Int32) from nI_ge (a := 8) (by omega) (by omega))]
      unfold f_X12_cut_135
      rw [if_pos (show (8 : Int32) < nI _ from nI_lt (a := 8) (by omega) (by omega))]
      unfold f_X12_cut_179
      rw [kM_tok hn en, Option.bind_some]
      simp only [kf_lt]
      rw [s1, if_neg q]
      rfl
  · have by1 := kM_byt h (i := i + k) (by omega)
    rw [if_pos (show i + k < X.1 by omega)] at by1
    have bl := kx_en_in (p := kx_le) (X := X) (i := i) (j := i + k) (by omega) (by omega)
    have b256 := h.2.2.2.1 (i + k)
    have isl := kx_isL_X12 b256 σ
    rw [kx_b1t bl] at isl
    show ∃ nm, f_X12_cut_85_s _ _ 77 (nI i) (nI k) a σ = _ ∧ _
    unfold f_X12_cut_85_s f_X12_cut_118
    by_cases q : 8 ≤ k
    · obtain ⟨nm, r1, r2⟩ := ih a (by rw [ea, Nat.min_eq_right q, Nat.min_eq_right (by omega)])
      refine ⟨nm, ?_, r2⟩
      have z : ((8 : Int32) ≤ nI k) = True := kz_leT (a := 8) q (by omega)
      simp (disch := omega) only [↓reduceIte, kz_lt, Option.bind_some, kz_ix, kz_leT, kz_leF, kz_ltT, kz_ltF, kz_lt0, kz_0le, kz_0ltT, kz_le0F, kz_eq0F, kz_10, kz_00, kz_11, kz_01, nI_clamp, nI_1, nI_add, pk_mul, kc0, kc1, kc2, kc3, kc4, kc5, kc6, kc7, kc8, kc9, kc10, kx0, kx1, kx2, kx3, kx4, kx5, kx6, kx7, kx8, kr77_1, kr77_3, kr77_5, kr77_6, kr77_7, kr77_8, kr77_9, kr77_21, kr77_22, kr77_23, kr77_24, kr77_25, kr77_26, kr77_27, kr77_28, kr77_29, kr77_30, kr77_31, kr77_32, kr77_33, kr77_34, kr77_35, kr77_36, kr77_38, kr77_39, kr77_40, kr77_41, kr77_42, kr77_44, kr77_45, kr77_46, kr77_48, kr77_49, kr77_51, kr77_52, kr77_55, kr77_57, kr77_58, kr77_59, kr77_61, kr77_62, kr77_63, kr77_64, kr77_65, kl78, kl79, kl80, kl81, kl82, kl83, kl84, kl85, kl86, kl87, kl88, kl89, kl90, kl91, kl92, kl93, kl94, kl95, kl96, kl97, kl98, kl99, kl100, kl101, kl102, kl103, kl104, kl105, kl106, kl107, kl108, kl109, kl110, kl111, kl112, kl113, kl114, kl115, kl116, kl117, kl118, kl119, kl120, kl121, by1, isl, z]
      exact r1
    · have z : ((8 : Int32) ≤ nI k) = False := kz_leF (a := 8) (by omega) (by decide)
      have n0 : ¬ nI (X.2 (i + k)) = 0 := nI_ne0 (by have := (kx_le_t.mp bl).1; omega) (by omega)
      obtain ⟨nm, r1, r2⟩ := ih ((27 : Int64) * a + Int32.toInt64 ((nI (X.2 (i + k)) - 97) + 1)) (by rw [ea, Nat.min_eq_left (show k ≤ 8 by omega), Nat.min_eq_left (show k + 1 ≤ 8 by omega), kx_wc_s])
      refine ⟨nm, ?_, r2⟩
      unfold f_X12_appends
      simp (disch := omega) only [↓reduceIte, kz_lt, Option.bind_some, kz_ix, kz_leT, kz_leF, kz_ltT, kz_ltF, kz_lt0, kz_0le, kz_0ltT, kz_le0F, kz_eq0F, kz_10, kz_00, kz_11, kz_01, nI_clamp, nI_1, nI_add, pk_mul, kc0, kc1, kc2, kc3, kc4, kc5, kc6, kc7, kc8, kc9, kc10, kx0, kx1, kx2, kx3, kx4, kx5, kx6, kx7, kx8, kr77_1, kr77_3, kr77_5, kr77_6, kr77_7, kr77_8, kr77_9, kr77_21, kr77_22, kr77_23, kr77_24, kr77_25, kr77_26, kr77_27, kr77_28, kr77_29, kr77_30, kr77_31, kr77_32, kr77_33, kr77_34, kr77_35, kr77_36, kr77_38, kr77_39, kr77_40, kr77_41, kr77_42, kr77_44, kr77_45, kr77_46, kr77_48, kr77_49, kr77_51, kr77_52, kr77_55, kr77_57, kr77_58, kr77_59, kr77_61, kr77_62, kr77_63, kr77_64, kr77_65, kl78, kl79, kl80, kl81, kl82, kl83, kl84, kl85, kl86, kl87, kl88, kl89, kl90, kl91, kl92, kl93, kl94, kl95, kl96, kl97, kl98, kl99, kl100, kl101, kl102, kl103, kl104, kl105, kl106, kl107, kl108, kl109, kl110, kl111, kl112, kl113, kl114, kl115, kl116, kl117, kl118, kl119, kl120, kl121, by1, isl, z, n0]
      exact r1
theorem kM_numb {X : kx_X} {σ : kf_St} (h : kx_TM X σ) (rec : Nat → Int32 → kf_St → Option kf_St) {i n : Nat} (hi : i < X.1) (hp : kx_di (X.2 i) = true) (hn : n ≤ 400) (en : σ.1 77 10 = nI n) : ∃ v, f_X12_cut_208 rec kf_F 77 (nI i) 0 0 σ = rec 77 (nI (kx_en kx_di X i)) (kx_tm σ n (nI (kx_km (if kx_en kx_di X i - i ≤ 4 then 3 else 1))) (nI i) v 0) ∧ (kx_en kx_di X i - i ≤ 4 → v = nI (kx_nv X (kx_en kx_di X i - i) i 0)) := by
  have hl := h.1
  have g1 := kx_en_ge kx_di X i
  have g2 := kx_en_le (p := kx_di) (Nat.le_of_lt hi)
  refine kp_ind (n := kx_en kx_di X i - i) (P := fun k f => ∀ a, a = nI (kx_nv X (min k 4) i 0) → ∃ v, f_X12_cut_208 rec f 77 (nI i) (nI k) a σ = rec 77 (nI (kx_en kx_di X i)) (kx_tm σ n (nI (kx_km (if kx_en kx_di X i - i ≤ 4 then 3 else 1))) (nI i) v 0) ∧ (kx_en kx_di X i - i ≤ 4 → v = nI (kx_nv X (kx_en kx_di X i - i) i 0))) (fun f a ea => ?_) (fun k hk f ih a ea => ?_) (kx_en kx_di X i - i) 0 (by omega) kf_F (kf_F_gt (by omega)) 0 rfl
  · have by1 := kM_byt h (i := i + (kx_en kx_di X i - i)) (by omega)
    have st := kx_en_st (p := kx_di) (X := X) (i := i)
    rw [show i + (kx_en kx_di X i - i) = kx_en kx_di X i by omega] at by1
    have nl : ∀ y, y < 256 → ¬ kx_di y = true → f_X12_isDigit (nI y) σ = some (0, σ) := fun y hy q => by rw [kx_isD_X12 hy, kx_b1f q]
    have byl : ∃ y, f_X12_byteAt 77 (nI (kx_en kx_di X i)) σ = some (nI y, σ) ∧ f_X12_isDigit (nI y) σ = some (0, σ) := by
      by_cases q : kx_en kx_di X i < X.1
      · rw [if_pos q] at by1
        exact ⟨_, by1, nl _ (h.2.2.2.1 _) (st q)⟩
      · rw [if_neg q] at by1
        exact ⟨_, by1, nl 0 (by decide) (by decide)⟩
    obtain ⟨y, y1, y2⟩ := byl
    have s1 : nI i + nI (kx_en kx_di X i - i) = nI (kx_en kx_di X i) := by rw [nI_add]; exact congrArg nI (by omega)
    refine ⟨a, ?_, fun q => by rw [ea, Nat.min_eq_left q]⟩
    show f_X12_cut_208_s _ _ 77 (nI i) (nI (kx_en kx_di X i - i)) a σ = _
    unfold f_X12_cut_208_s f_X12_cut_261
    by_cases q : kx_en kx_di X i - i ≤ 4
    · rw [s1, y1, Option.bind_some]
      dsimp only
      rw [y2, Option.bind_some, if_pos rfl, if_pos (show nI _ ≤ (4 : Int32) from nI_le (b := 4) q (by decide)), kM_tok hn en, Option.bind_some, if_pos q]
      rfl
    · rw [s1, y1, Option.bind_some]
      dsimp only
      rw [y2, Option.bind_some, if_pos rfl, if_neg (show ¬ nI _ ≤ (4 : Int32) from nI_ge (a := 4) (by omega) (by omega)), kM_tok hn en, Option.bind_some, if_neg q]
      rfl
  · have by1 := kM_byt h (i := i + k) (by omega)
    rw [if_pos (show i + k < X.1 by omega)] at by1
    have bl := kx_en_in (p := kx_di) (X := X) (i := i) (j := i + k) (by omega) (by omega)
    have b256 := h.2.2.2.1 (i + k)
    have isl := kx_isD_X12 b256 σ
    rw [kx_b1t bl] at isl
    show ∃ v, f_X12_cut_208_s _ _ 77 (nI i) (nI k) a σ = _ ∧ _
    unfold f_X12_cut_208_s f_X12_cut_244
    by_cases q : 4 ≤ k
    · obtain ⟨v, r1, r2⟩ := ih a (by rw [ea, Nat.min_eq_right q, Nat.min_eq_right (by omega)])
      refine ⟨v, ?_, r2⟩
      have z : ((4 : Int32) ≤ nI k) = True := kz_leT (a := 4) q (by omega)
      simp (disch := omega) only [↓reduceIte, kz_lt, Option.bind_some, kz_ix, kz_leT, kz_leF, kz_ltT, kz_ltF, kz_lt0, kz_0le, kz_0ltT, kz_le0F, kz_eq0F, kz_10, kz_00, kz_11, kz_01, nI_clamp, nI_1, nI_add, pk_mul, kc0, kc1, kc2, kc3, kc4, kc5, kc6, kc7, kc8, kc9, kc10, kx0, kx1, kx2, kx3, kx4, kx5, kx6, kx7, kx8, kr77_1, kr77_3, kr77_5, kr77_6, kr77_7, kr77_8, kr77_9, kr77_21, kr77_22, kr77_23, kr77_24, kr77_25, kr77_26, kr77_27, kr77_28, kr77_29, kr77_30, kr77_31, kr77_32, kr77_33, kr77_34, kr77_35, kr77_36, kr77_38, kr77_39, kr77_40, kr77_41, kr77_42, kr77_44, kr77_45, kr77_46, kr77_48, kr77_49, kr77_51, kr77_52, kr77_55, kr77_57, kr77_58, kr77_59, kr77_61, kr77_62, kr77_63, kr77_64, kr77_65, kl78, kl79, kl80, kl81, kl82, kl83, kl84, kl85, kl86, kl87, kl88, kl89, kl90, kl91, kl92, kl93, kl94, kl95, kl96, kl97, kl98, kl99, kl100, kl101, kl102, kl103, kl104, kl105, kl106, kl107, kl108, kl109, kl110, kl111, kl112, kl113, kl114, kl115, kl116, kl117, kl118, kl119, kl120, kl121, by1, isl, z]
      exact r1
    · have z : ((4 : Int32) ≤ nI k) = False := kz_leF (a := 4) (by omega) (by decide)
      have dg := kx_di_t.mp bl
      have ev : (10 : Int32) * a + nI (X.2 (i + k)) - 48 = nI (kx_nv X (k + 1) i 0) := by
        rw [ea, Nat.min_eq_left (show k ≤ 4 by omega), kx_nv_s, show (10 : Int32) = nI 10 from rfl, pk_mul, nI_add, show (48 : Int32) = nI 48 from rfl, pk_sub (by omega)]
        exact congrArg nI (by omega)
      obtain ⟨v, r1, r2⟩ := ih ((10 : Int32) * a + nI (X.2 (i + k)) - 48) (by rw [ev, Nat.min_eq_left (show k + 1 ≤ 4 by omega)])
      refine ⟨v, ?_, r2⟩
      simp (disch := omega) only [↓reduceIte, kz_lt, Option.bind_some, kz_ix, kz_leT, kz_leF, kz_ltT, kz_ltF, kz_lt0, kz_0le, kz_0ltT, kz_le0F, kz_eq0F, kz_10, kz_00, kz_11, kz_01, nI_clamp, nI_1, nI_add, pk_mul, kc0, kc1, kc2, kc3, kc4, kc5, kc6, kc7, kc8, kc9, kc10, kx0, kx1, kx2, kx3, kx4, kx5, kx6, kx7, kx8, kr77_1, kr77_3, kr77_5, kr77_6, kr77_7, kr77_8, kr77_9, kr77_21, kr77_22, kr77_23, kr77_24, kr77_25, kr77_26, kr77_27, kr77_28, kr77_29, kr77_30, kr77_31, kr77_32, kr77_33, kr77_34, kr77_35, kr77_36, kr77_38, kr77_39, kr77_40, kr77_41, kr77_42, kr77_44, kr77_45, kr77_46, kr77_48, kr77_49, kr77_51, kr77_52, kr77_55, kr77_57, kr77_58, kr77_59, kr77_61, kr77_62, kr77_63, kr77_64, kr77_65, kl78, kl79, kl80, kl81, kl82, kl83, kl84, kl85, kl86, kl87, kl88, kl89, kl90, kl91, kl92, kl93, kl94, kl95, kl96, kl97, kl98, kl99, kl100, kl101, kl102, kl103, kl104, kl105, kl106, kl107, kl108, kl109, kl110, kl111, kl112, kl113, kl114, kl115, kl116, kl117, kl118, kl119, kl120, kl121, by1, isl, z]
      exact r1
theorem kM_sign {σ : kf_St} {i n c : Nat} (d : Int32) (hc : c < 256) (hn : n ≤ 400) (en : σ.1 77 10 = nI n) : f_X12_sign 77 (nI i) (nI c) d σ = some (1, kx_tm σ n (nI (kx_km (if kx_sg c then c else 1))) (nI i) 0 0) := by
  have tk : ∀ k, f_X12_token 77 k (nI i) 0 (0 : Int64) σ = some (kx_tm σ n k (nI i) 0 0) := fun k => kM_tok hn en k _ _ _
  unfold f_X12_sign f_X12_sign_43 f_X12_sign_55 f_X12_sign_65 f_X12_sign_75 f_X12_sign_85 f_X12_sign_95
  simp only [tk, Option.bind_some]
  by_cases b : kx_sg c = true
  · rcases kx_sg_t.mp b with rfl | rfl | rfl | rfl | rfl | rfl | rfl | rfl | rfl <;> rfl
  · have n1 : ∀ m, m < 256 → kx_sg m = true → ¬ nI c = nI m := fun m hm hs e => b (by rw [(nI_eq (by omega) (by omega)).mp e]; exact hs)
    rw [if_neg b, if_neg (show ¬ nI c = 59 from n1 59 (by decide) (by decide)), if_neg (show ¬ nI c = 61 from n1 61 (by decide) (by decide)), if_neg (show ¬ nI c = 40 from n1 40 (by decide) (by decide)), if_neg (show ¬ nI c = 41 from n1 41 (by decide) (by decide)), if_neg (show ¬ nI c = 43 from n1 43 (by decide) (by decide)), if_neg (show ¬ nI c = 45 from n1 45 (by decide) (by decide)), if_neg (show ¬ nI c = 42 from n1 42 (by decide) (by decide)), if_neg (show ¬ nI c = 47 from n1 47 (by decide) (by decide)), if_neg (show ¬ nI c = 60 from n1 60 (by decide) (by decide))]
    rfl
def kx_aM (X : kx_X) (j : Nat) (τ : kf_St) : Prop := τ.1 80 j = nI (kx_km (kx_K X j)) ∧ τ.1 81 j = nI (kx_P X j) ∧ (kx_K X j = 3 → τ.1 82 j = nI (kx_N X j)) ∧ (kx_K X j = 2 → τ.2 83 j = kx_V X j)
theorem kM_bl {X : kx_X} {y : Nat} (hy : y < 256) (rec : Nat → Int32 → kf_St → Option kf_St) (i : Int32) (σ : kf_St) (e : Option kf_St) : (if nI y = 9 then f_X12_cut_67 rec 77 i σ else if nI y = 10 then f_X12_cut_67 rec 77 i σ else if nI y = 13 then f_X12_cut_67 rec 77 i σ else if nI y = 32 then f_X12_cut_67 rec 77 i σ else e) = if kx_bl y = true then f_X12_cut_67 rec 77 i σ else e := by
  have q : ∀ m, m < 256 → ((nI y = nI m) = (y = m)) := fun m hm => kx_eqI (by omega) (by omega)
  have q9 : (nI y = 9) = (y = 9) := q 9 (by decide)
  have q10 : (nI y = 10) = (y = 10) := q 10 (by decide)
  have q13 : (nI y = 13) = (y = 13) := q 13 (by decide)
  have q32 : (nI y = 32) = (y = 32) := q 32 (by decide)
  simp only [q9, q10, q13, q32]
  by_cases b : kx_bl y = true
  · rw [if_pos b]
    rcases kx_bl_t.mp b with rfl | rfl | rfl | rfl <;> simp
  · rw [if_neg b, if_neg (fun e => b (kx_bl_t.mpr (by omega))), if_neg (fun e => b (kx_bl_t.mpr (by omega))), if_neg (fun e => b (kx_bl_t.mpr (by omega))), if_neg (fun e => b (kx_bl_t.mpr (by omega)))]
theorem kM_cut {X : kx_X} {σ : kf_St} (h : kx_TM X σ) : ∃ τ, f_X12_cut 77 σ = some τ ∧ kx_fr kx_mP kx_mQ σ τ ∧ ∀ j, kx_ok X j → kx_aM X j τ := by
  have hl := h.1
  have main : ∀ m i n, i + m = X.1 → ∀ f, m + 1 < f → n ≤ 401 → kx_en kx_bl X i = kx_P X n → ∀ τ, kx_fr kx_mP kx_mQ σ τ → τ.1 77 10 = nI n → (∀ j, j < n → kx_aM X j τ) → ∃ τ', f_X12_cut_7 f 77 (nI i) τ = some τ' ∧ kx_fr kx_mP kx_mQ σ τ' ∧ ∀ j, kx_ok X j → kx_aM X j τ' := by
    intro m
    induction m using Nat.strongRecOn with
    | ind m ih =>
      intro i n him f hf hn hP τ cc e10 ha
      obtain ⟨g, rfl⟩ := kp_fuel (show 0 < f by omega)
      have h' := h.t cc
      show ∃ τ', f_X12_cut_7_s _ 77 (nI i) τ = some τ' ∧ _
      unfold f_X12_cut_7_s
      by_cases n4 : 400 < n
      · refine ⟨τ, ?_, cc, fun j hj => ha j (by have := hj.1; omega)⟩
        rw [e10, if_pos (show (400 : Int32) < nI n from nI_lt (a := 400) n4 (by omega))]
      rw [e10, if_neg (show ¬ (400 : Int32) < nI n from nI_nlt (a := 400) (by omega) (by decide))]
      have by1 := kM_byt h' (i := i) (by omega)
      by_cases hi : i < X.1
      · rw [if_pos hi] at by1
        have y256 := h'.2.2.2.1 i
        rw [by1, Option.bind_some]
        dsimp only
        rw [h'.2.1, if_pos (nI_lt hi (by omega)), kM_bl (X := X) y256]
        by_cases b : kx_bl (X.2 i) = true
        · rw [if_pos b]
          unfold f_X12_cut_67
          simp only [kf_lt]
          rw [nI_1]
          exact ih (m - 1) (by omega) (i + 1) n (by omega) g (by omega) hn (by rw [← kx_en_t hi b]; exact hP) τ cc e10 ha
        · rw [if_neg b]
          rw [kx_en_f (fun _ => b)] at hP
          -- a token begins here
          have fin : ∀ τ2, kx_fr kx_mP kx_mQ σ τ2 → τ2.1 77 10 = nI (n + 1) → (∀ j, j < n + 1 → kx_aM X j τ2) → (kx_to X i).1 ≠ 0 → ∃ τ', f_X12_cut_7 g 77 (nI (kx_to X i).2.1) τ2 = some τ' ∧ kx_fr kx_mP kx_mQ σ τ' ∧ ∀ j, kx_ok X j → kx_aM X j τ' := by
            intro τ2 c2 e2 a2 k0
            have tg := kx_to_ge (X := X) (i := i) (by omega)
            have tg2 := tg.2.2 k0
            refine ih (X.1 - (kx_to X i).2.1) (by omega) (kx_to X i).2.1 (n + 1) (by omega) g (by omega) (by omega) ?_ τ2 c2 e2 a2
            show _ = kx_en kx_bl X (kx_po X (n + 1))
            rw [kx_po_s, ← hP]
          have arr : ∀ (k w v : Int32) (nm : Int64), k = nI (kx_km (kx_to X i).1) → w = nI i → ((kx_to X i).1 = 3 → v = nI (kx_to X i).2.2.2) → ((kx_to X i).1 = 2 → nm = (kx_to X i).2.2.1) → ∀ j, j < n + 1 → kx_aM X j (kx_tm τ n k w v nm) := by
            intro k w v nm q1 q2 q3 q4 j hj
            by_cases z : j = n
            · subst z
              obtain ⟨t1, t2, t3, t4, -⟩ := kx_tm_at τ j k w v nm
              unfold kx_aM kx_K kx_N kx_V
              rw [← hP, t1, t2, t3, t4]
              exact ⟨q1, q2, q3, q4⟩
            · obtain ⟨t1, t2, t3, t4⟩ := kx_tm_ne τ z k w v nm
              unfold kx_aM
              rw [t1, t2, t3, t4]
              exact ha j (by omega)
          rcases kx_to_cs X i with ⟨h1, q⟩ | ⟨h1, h2, q⟩ | ⟨h1, h2, h3, q⟩ | ⟨h1, h2, h3, q⟩
          · exact absurd hi h1
          · obtain ⟨nm, w1, w2⟩ := kM_word h' (f_X12_cut_7 g) hi h2 (by omega) e10
            have isl := kx_isL_X12 y256 τ
            rw [kx_b1t h2] at isl
            have q1 : (kx_to X i).1 = if kx_en kx_le X i - i ≤ 8 then kx_kw (kx_wc X (kx_en kx_le X i - i) i 0) else 1 := by rw [q]
            have q2 : (kx_to X i).2.1 = kx_en kx_le X i := by rw [q]
            have kv : (kx_to X i).1 = 1 ∨ (kx_to X i).1 = 2 ∨ (256 ≤ (kx_to X i).1 ∧ (kx_to X i).1 ≤ 276) := by
              rw [q1]
              by_cases z : kx_en kx_le X i - i ≤ 8
              · rw [if_pos z]; exact Or.inr (kx_kw_v _)
              · rw [if_neg z]; exact Or.inl rfl
            obtain ⟨τ', r1, r2⟩ := fin (kx_tm τ n (nI (kx_km (kx_to X i).1)) (nI i) 0 nm) (cc.tr (kx_tm_fr _ _ _ _ _ _)) (kx_tm_at _ _ _ _ _ _).2.2.2.2 (arr _ _ _ _ rfl rfl (fun z => by omega) (fun z => by
              rw [q]
              refine w2 ?_
              by_cases z8 : kx_en kx_le X i - i ≤ 8
              · exact z8
              · rw [q1, if_neg z8] at z; exact absurd z (by decide))) (by omega)
            refine ⟨τ', ?_, r2⟩
            rw [isl, Option.bind_some, if_neg (show ¬ (1 : Int32) = 0 by decide)]
            simp only [kf_lt]
            rw [w1, ← q1, ← q2]
            exact r1
          · obtain ⟨v, w1, w2⟩ := kM_numb h' (f_X12_cut_7 g) hi h3 (by omega) e10
            have isl := kx_isL_X12 y256 τ
            rw [kx_b1f h2] at isl
            have isd := kx_isD_X12 y256 τ
            rw [kx_b1t h3] at isd
            have q1 : (kx_to X i).1 = if kx_en kx_di X i - i ≤ 4 then 3 else 1 := by rw [q]
            have q2 : (kx_to X i).2.1 = kx_en kx_di X i := by rw [q]
            have kv : (kx_to X i).1 = 1 ∨ (kx_to X i).1 = 3 := by
              rw [q1]
              by_cases z : kx_en kx_di X i - i ≤ 4
              · rw [if_pos z]; exact Or.inr rfl
              · rw [if_neg z]; exact Or.inl rfl
            obtain ⟨τ', r1, r2⟩ := fin (kx_tm τ n (nI (kx_km (kx_to X i).1)) (nI i) v 0) (cc.tr (kx_tm_fr _ _ _ _ _ _)) (kx_tm_at _ _ _ _ _ _).2.2.2.2 (arr _ _ _ _ rfl rfl (fun z => by
              rw [q]
              refine w2 ?_
              by_cases z8 : kx_en kx_di X i - i ≤ 4
              · exact z8
              · rw [q1, if_neg z8] at z; exact absurd z (by decide)) (fun z => by omega)) (by omega)
            refine ⟨τ', ?_, r2⟩
            rw [isl, Option.bind_some, if_pos rfl]
            dsimp only
            rw [isd, Option.bind_some, if_neg (show ¬ (1 : Int32) = 0 by decide)]
            dsimp only
            rw [w1, ← q1, ← q2]
            exact r1
          · have isl := kx_isL_X12 y256 τ
            rw [kx_b1f h2] at isl
            have isd := kx_isD_X12 y256 τ
            rw [kx_b1f h3] at isd
            have by2 := kM_byt h' (i := i + 1) (by omega)
            have sg := kM_sign (σ := τ) (i := i) (if i + 1 < X.1 then nI (X.2 (i + 1)) else nI 0) y256 (show n ≤ 400 by omega) e10
            have q1 : (kx_to X i).1 = if kx_sg (X.2 i) then X.2 i else 1 := by rw [q]
            have q2 : (kx_to X i).2.1 = i + 1 := by rw [q]
            have kv : (kx_to X i).1 = 1 ∨ kx_sg (kx_to X i).1 = true := by
              rw [q1]
              by_cases z : kx_sg (X.2 i) = true
              · rw [if_pos z]; exact Or.inr z
              · rw [if_neg z]; exact Or.inl rfl
            have kv2 : (kx_to X i).1 ≠ 0 ∧ (kx_to X i).1 ≠ 2 ∧ (kx_to X i).1 ≠ 3 := by
              rcases kv with z | z
              · omega
              · have := kx_sg_t.mp z
                omega
            obtain ⟨τ', r1, r2⟩ := fin (kx_tm τ n (nI (kx_km (kx_to X i).1)) (nI i) 0 0) (cc.tr (kx_tm_fr _ _ _ _ _ _)) (kx_tm_at _ _ _ _ _ _).2.2.2.2 (arr _ _ _ _ rfl rfl (fun z => absurd z kv2.2.2) (fun z => absurd z kv2.2.1)) kv2.1
            refine ⟨τ', ?_, r2⟩
            rw [← q1] at sg
            rw [isl, Option.bind_some, if_pos rfl]
            dsimp only
            rw [isd, Option.bind_some, if_pos rfl]
            dsimp only
            rw [nI_1, by2, Option.bind_some]
            dsimp only
            rw [sg, Option.bind_some]
            simp only [kf_lt]
            rw [nI_1, ← q2]
            exact r1
      · rw [if_neg hi] at by1
        have iL : i = X.1 := by omega
        have PL : kx_P X n = X.1 := by rw [← hP, kx_en_f (fun q => absurd q hi)]; exact iL
        have t0 : kx_to X (kx_P X n) = (0, kx_P X n, 0, 0) := by
          rcases kx_to_cs X (kx_P X n) with ⟨-, q⟩ | ⟨h1, -⟩ | ⟨h1, -⟩ | ⟨h1, -⟩
          · exact q
          · omega
          · omega
          · omega
        have K0 : kx_K X n = 0 := by unfold kx_K; rw [t0]
        refine ⟨kx_tm τ n 0 (nI X.1) 0 0, ?_, cc.tr (kx_tm_fr _ _ _ _ _ _), fun j hj => ?_⟩
        · rw [by1, Option.bind_some]
          dsimp only
          rw [h'.2.1, if_neg (nI_nlt (by omega) (by omega)), kM_tok (by omega) e10, Option.bind_some]
        · by_cases z : j = n
          · subst z
            obtain ⟨t1, t2, t3, t4, -⟩ := kx_tm_at τ j 0 (nI X.1) 0 0
            unfold kx_aM
            rw [t1, t2, K0, PL]
            exact ⟨rfl, rfl, fun q => absurd q (by decide), fun q => absurd q (by decide)⟩
          · obtain ⟨t1, t2, t3, t4⟩ := kx_tm_ne τ z 0 (nI X.1) 0 0
            unfold kx_aM
            rw [t1, t2, t3, t4]
            refine ha j ?_
            by_cases q : j < n
            · exact q
            · exact absurd K0 (hj.2 n (by omega)).1
  unfold f_X12_cut
  simp only [kf_lt]
  exact main X.1 0 0 (by omega) kf_F (kf_F_gt (by omega)) (by decide) rfl _ (kx_fr.rf.wi (by unfold kx_mP; omega)) (kp_wi_same _ _ _ _) (fun j hj => absurd hj (Nat.not_lt_zero j))
