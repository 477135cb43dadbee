/-! ===== pure: the loop over a script ===== -/
theorem kl_two {F G T : kf_St → Option (Int32 × kf_St)} {σ σ1 σ2 : kf_St} {v : Int32} (s1 : F σ = some (v, σ1)) (s2 : G σ1 = some (v, σ2)) : ((F σ).bind fun q => (G q.2).bind fun p => if q.1 = p.1 then T p.2 else some (0, p.2)) = T σ2 := by
  rw [s1, Option.bind_some]
  dsimp only
  rw [s2, Option.bind_some]
  exact if_pos rfl
theorem kl_step {A : kp_A} {k : Nat} {F G : kf_St → Option (Int32 × kf_St)} {σ : kf_St} (h : kp_op A k F G) (hC : kp_Cr A σ) (hM : kp_Mr A σ) : ∃ v A2 σ1 σ2, F σ = some (v, σ1) ∧ G σ1 = some (v, σ2) ∧ kp_Aok A2 (k + 1) ∧ kp_Cr A2 σ2 ∧ kp_Mr A2 σ2 := by
  obtain ⟨v, A2, ok, f1, g1⟩ := h
  obtain ⟨σ1, a1, a2, a3⟩ := f1 σ hC
  obtain ⟨σ2, b1, b2, b3⟩ := g1 σ1 (hM.fr a2)
  exact ⟨v, A2, σ1, σ2, a1, b1, ok, a3.fr ok.1.1.1 b2, b3⟩
abbrev kl_tl (rec : Nat → Nat → Nat → Int32 → kf_St → Option (Int32 × kf_St)) (b i k : Nat) : Prop := ∀ A2 σ2, kp_Aok A2 (k + 1) → kp_Cr A2 σ2 → kp_Mr A2 σ2 → ∃ q, q.1 = 1 ∧ rec b 0 77 (nI (i + 6)) σ2 = some q
theorem kl_6 {L : Nat} {xs : Nat → Int32} (rec : Nat → Nat → Nat → Int32 → kf_St → Option (Int32 × kf_St)) (b i : Nat) (σ : kf_St) : f_L_law_1471 L xs rec b 0 77 (nI i) σ = rec b 0 77 (nI (i + 6)) σ := by
  unfold f_L_law_1471
  rw [kz_lt]
  exact congrArg (fun z => rec b 0 77 z σ) (nI_add i 6)
theorem kl_e1 (i : Nat) : nI i + 1 = nI (i + 1) := nI_add i 1
theorem kl_x1 {i L : Nat} (h : i + 6 ≤ L) (hL : L ≤ 3072) : kf_ix (nI (i + 1)) L = true := kf_ixN (by omega) (by omega)
theorem kl_c1 {i L : Nat} (h : i + 6 ≤ L) (hL : L ≤ 3072) : (nI (i + 1)).toNatClampNeg = i + 1 := nI_clamp (by omega)
theorem kl_e2 (i : Nat) : nI i + 2 = nI (i + 2) := nI_add i 2
theorem kl_x2 {i L : Nat} (h : i + 6 ≤ L) (hL : L ≤ 3072) : kf_ix (nI (i + 2)) L = true := kf_ixN (by omega) (by omega)
theorem kl_c2 {i L : Nat} (h : i + 6 ≤ L) (hL : L ≤ 3072) : (nI (i + 2)).toNatClampNeg = i + 2 := nI_clamp (by omega)
theorem kl_e3 (i : Nat) : nI i + 3 = nI (i + 3) := nI_add i 3
theorem kl_x3 {i L : Nat} (h : i + 6 ≤ L) (hL : L ≤ 3072) : kf_ix (nI (i + 3)) L = true := kf_ixN (by omega) (by omega)
theorem kl_c3 {i L : Nat} (h : i + 6 ≤ L) (hL : L ≤ 3072) : (nI (i + 3)).toNatClampNeg = i + 3 := nI_clamp (by omega)
theorem kl_e4 (i : Nat) : nI i + 4 = nI (i + 4) := nI_add i 4
theorem kl_x4 {i L : Nat} (h : i + 6 ≤ L) (hL : L ≤ 3072) : kf_ix (nI (i + 4)) L = true := kf_ixN (by omega) (by omega)
theorem kl_c4 {i L : Nat} (h : i + 6 ≤ L) (hL : L ≤ 3072) : (nI (i + 4)).toNatClampNeg = i + 4 := nI_clamp (by omega)
theorem kl_e5 (i : Nat) : nI i + 5 = nI (i + 5) := nI_add i 5
theorem kl_x5 {i L : Nat} (h : i + 6 ≤ L) (hL : L ≤ 3072) : kf_ix (nI (i + 5)) L = true := kf_ixN (by omega) (by omega)
theorem kl_c5 {i L : Nat} (h : i + 6 ≤ L) (hL : L ≤ 3072) : (nI (i + 5)).toNatClampNeg = i + 5 := nI_clamp (by omega)
theorem kl_c_feed {L b i k : Nat} {xs : Nat → Int32} {rec : Nat → Nat → Nat → Int32 → kf_St → Option (Int32 × kf_St)} {A : kp_A} {σ : kf_St} (hi : i + 6 ≤ L) (hL : L ≤ 3072) (hk : k ≤ 512) (hA : kp_Aok A k) (hC : kp_Cr A σ) (hM : kp_Mr A σ) (tl : kl_tl rec b i k) : ∃ q, q.1 = 1 ∧ f_L_law_212 L xs rec b 0 77 (nI i) σ = some q := by
  obtain ⟨v, A2, σ1, σ2, s1, s2, ok, c2, m2⟩ := kl_step (ko_feed hA (xs (i + 1)) (xs (i + 2)) (xs (i + 3)) (xs (i + 4)) (xs (i + 5))) hC hM
  obtain ⟨q, q1, q2⟩ := tl A2 σ2 ok c2 m2
  refine ⟨q, q1, ?_⟩
  unfold f_L_law_212
  simp only [↓reduceIte, kl_e1 i, kl_x1 hi hL, kl_c1 hi hL, kl_e2 i, kl_x2 hi hL, kl_c2 hi hL, kl_e3 i, kl_x3 hi hL, kl_c3 hi hL, kl_e4 i, kl_x4 hi hL, kl_c4 hi hL, kl_e5 i, kl_x5 hi hL, kl_c5 hi hL]
  refine (kl_two (T := f_L_law_1471 L xs rec b 0 77 (nI i)) s1 s2).trans ?_
  rw [kl_6]; exact q2
theorem kl_c_back {L b i k : Nat} {xs : Nat → Int32} {rec : Nat → Nat → Nat → Int32 → kf_St → Option (Int32 × kf_St)} {A : kp_A} {σ : kf_St} (hi : i + 6 ≤ L) (hL : L ≤ 3072) (hk : k ≤ 512) (hA : kp_Aok A k) (hC : kp_Cr A σ) (hM : kp_Mr A σ) (tl : kl_tl rec b i k) : ∃ q, q.1 = 1 ∧ f_L_law_275 L xs rec b 0 77 (nI i) σ = some q := by
  obtain ⟨v, A2, σ1, σ2, s1, s2, ok, c2, m2⟩ := kl_step (ko_back hA (xs (i + 1))) hC hM
  obtain ⟨q, q1, q2⟩ := tl A2 σ2 ok c2 m2
  refine ⟨q, q1, ?_⟩
  unfold f_L_law_275
  simp only [↓reduceIte, kl_e1 i, kl_x1 hi hL, kl_c1 hi hL, kl_e2 i, kl_x2 hi hL, kl_c2 hi hL, kl_e3 i, kl_x3 hi hL, kl_c3 hi hL, kl_e4 i, kl_x4 hi hL, kl_c4 hi hL, kl_e5 i, kl_x5 hi hL, kl_c5 hi hL]
  refine (kl_two (T := f_L_law_1471 L xs rec b 0 77 (nI i)) s1 s2).trans ?_
  rw [kl_6]; exact q2
theorem kl_c_read {L b i k : Nat} {xs : Nat → Int32} {rec : Nat → Nat → Nat → Int32 → kf_St → Option (Int32 × kf_St)} {A : kp_A} {σ : kf_St} (hi : i + 6 ≤ L) (hL : L ≤ 3072) (hk : k ≤ 512) (hA : kp_Aok A k) (hC : kp_Cr A σ) (hM : kp_Mr A σ) (tl : kl_tl rec b i k) : ∃ q, q.1 = 1 ∧ f_L_law_298 L xs rec b 0 77 (nI i) σ = some q := by
  obtain ⟨v, A2, σ1, σ2, s1, s2, ok, c2, m2⟩ := kl_step (ko_read hA ⟨σ, hC⟩) hC hM
  obtain ⟨q, q1, q2⟩ := tl A2 σ2 ok c2 m2
  refine ⟨q, q1, ?_⟩
  unfold f_L_law_298
  refine (kl_two (T := f_L_law_1471 L xs rec b 0 77 (nI i)) s1 s2).trans ?_
  rw [kl_6]; exact q2
theorem kl_c_place {L b i k : Nat} {xs : Nat → Int32} {rec : Nat → Nat → Nat → Int32 → kf_St → Option (Int32 × kf_St)} {A : kp_A} {σ : kf_St} (hi : i + 6 ≤ L) (hL : L ≤ 3072) (hk : k ≤ 512) (hA : kp_Aok A k) (hC : kp_Cr A σ) (hM : kp_Mr A σ) (tl : kl_tl rec b i k) : ∃ q, q.1 = 1 ∧ f_L_law_311 L xs rec b 0 77 (nI i) σ = some q := by
  obtain ⟨v, A2, σ1, σ2, s1, s2, ok, c2, m2⟩ := kl_step (kp_qq.op hA kq_place) hC hM
  obtain ⟨q, q1, q2⟩ := tl A2 σ2 ok c2 m2
  refine ⟨q, q1, ?_⟩
  unfold f_L_law_311
  refine (kl_two (T := f_L_law_1471 L xs rec b 0 77 (nI i)) s1 s2).trans ?_
  rw [kl_6]; exact q2
theorem kl_c_door {L b i k : Nat} {xs : Nat → Int32} {rec : Nat → Nat → Nat → Int32 → kf_St → Option (Int32 × kf_St)} {A : kp_A} {σ : kf_St} (hi : i + 6 ≤ L) (hL : L ≤ 3072) (hk : k ≤ 512) (hA : kp_Aok A k) (hC : kp_Cr A σ) (hM : kp_Mr A σ) (tl : kl_tl rec b i k) : ∃ q, q.1 = 1 ∧ f_L_law_324 L xs rec b 0 77 (nI i) σ = some q := by
  obtain ⟨v, A2, σ1, σ2, s1, s2, ok, c2, m2⟩ := kl_step (kp_qq.op hA (kq_door hA (xs (i + 1)) (xs (i + 2)))) hC hM
  obtain ⟨q, q1, q2⟩ := tl A2 σ2 ok c2 m2
  refine ⟨q, q1, ?_⟩
  unfold f_L_law_324
  simp only [↓reduceIte, kl_e1 i, kl_x1 hi hL, kl_c1 hi hL, kl_e2 i, kl_x2 hi hL, kl_c2 hi hL, kl_e3 i, kl_x3 hi hL, kl_c3 hi hL, kl_e4 i, kl_x4 hi hL, kl_c4 hi hL, kl_e5 i, kl_x5 hi hL, kl_c5 hi hL]
  refine (kl_two (T := f_L_law_1471 L xs rec b 0 77 (nI i)) s1 s2).trans ?_
  rw [kl_6]; exact q2
theorem kl_c_caller {L b i k : Nat} {xs : Nat → Int32} {rec : Nat → Nat → Nat → Int32 → kf_St → Option (Int32 × kf_St)} {A : kp_A} {σ : kf_St} (hi : i + 6 ≤ L) (hL : L ≤ 3072) (hk : k ≤ 512) (hA : kp_Aok A k) (hC : kp_Cr A σ) (hM : kp_Mr A σ) (tl : kl_tl rec b i k) : ∃ q, q.1 = 1 ∧ f_L_law_357 L xs rec b 0 77 (nI i) σ = some q := by
  obtain ⟨v, A2, σ1, σ2, s1, s2, ok, c2, m2⟩ := kl_step (kp_qq.op hA (kq_caller hA (xs (i + 1)) (xs (i + 2)))) hC hM
  obtain ⟨q, q1, q2⟩ := tl A2 σ2 ok c2 m2
  refine ⟨q, q1, ?_⟩
  unfold f_L_law_357
  simp only [↓reduceIte, kl_e1 i, kl_x1 hi hL, kl_c1 hi hL, kl_e2 i, kl_x2 hi hL, kl_c2 hi hL, kl_e3 i, kl_x3 hi hL, kl_c3 hi hL, kl_e4 i, kl_x4 hi hL, kl_c4 hi hL, kl_e5 i, kl_x5 hi hL, kl_c5 hi hL]
  refine (kl_two (T := f_L_law_1471 L xs rec b 0 77 (nI i)) s1 s2).trans ?_
  rw [kl_6]; exact q2
theorem kl_c_round {L b i k : Nat} {xs : Nat → Int32} {rec : Nat → Nat → Nat → Int32 → kf_St → Option (Int32 × kf_St)} {A : kp_A} {σ : kf_St} (hi : i + 6 ≤ L) (hL : L ≤ 3072) (hk : k ≤ 512) (hA : kp_Aok A k) (hC : kp_Cr A σ) (hM : kp_Mr A σ) (tl : kl_tl rec b i k) : ∃ q, q.1 = 1 ∧ f_L_law_390 L xs rec b 0 77 (nI i) σ = some q := by
  obtain ⟨v, A2, σ1, σ2, s1, s2, ok, c2, m2⟩ := kl_step (kp_qq.op hA (kq_round hA (by omega) (xs (i + 1)) (xs (i + 2)))) hC hM
  obtain ⟨q, q1, q2⟩ := tl A2 σ2 ok c2 m2
  refine ⟨q, q1, ?_⟩
  unfold f_L_law_390
  simp only [↓reduceIte, kl_e1 i, kl_x1 hi hL, kl_c1 hi hL, kl_e2 i, kl_x2 hi hL, kl_c2 hi hL, kl_e3 i, kl_x3 hi hL, kl_c3 hi hL, kl_e4 i, kl_x4 hi hL, kl_c4 hi hL, kl_e5 i, kl_x5 hi hL, kl_c5 hi hL]
  refine (kl_two (T := f_L_law_1471 L xs rec b 0 77 (nI i)) s1 s2).trans ?_
  rw [kl_6]; exact q2
theorem kl_c_unlike {L b i k : Nat} {xs : Nat → Int32} {rec : Nat → Nat → Nat → Int32 → kf_St → Option (Int32 × kf_St)} {A : kp_A} {σ : kf_St} (hi : i + 6 ≤ L) (hL : L ≤ 3072) (hk : k ≤ 512) (hA : kp_Aok A k) (hC : kp_Cr A σ) (hM : kp_Mr A σ) (tl : kl_tl rec b i k) : ∃ q, q.1 = 1 ∧ f_L_law_423 L xs rec b 0 77 (nI i) σ = some q := by
  obtain ⟨v, A2, σ1, σ2, s1, s2, ok, c2, m2⟩ := kl_step (kp_qq.op hA (kq_unlike hA (xs (i + 1)) (xs (i + 2)))) hC hM
  obtain ⟨q, q1, q2⟩ := tl A2 σ2 ok c2 m2
  refine ⟨q, q1, ?_⟩
  unfold f_L_law_423
  simp only [↓reduceIte, kl_e1 i, kl_x1 hi hL, kl_c1 hi hL, kl_e2 i, kl_x2 hi hL, kl_c2 hi hL, kl_e3 i, kl_x3 hi hL, kl_c3 hi hL, kl_e4 i, kl_x4 hi hL, kl_c4 hi hL, kl_e5 i, kl_x5 hi hL, kl_c5 hi hL]
  refine (kl_two (T := f_L_law_1471 L xs rec b 0 77 (nI i)) s1 s2).trans ?_
  rw [kl_6]; exact q2
theorem kl_c_tells {L b i k : Nat} {xs : Nat → Int32} {rec : Nat → Nat → Nat → Int32 → kf_St → Option (Int32 × kf_St)} {A : kp_A} {σ : kf_St} (hi : i + 6 ≤ L) (hL : L ≤ 3072) (hk : k ≤ 512) (hA : kp_Aok A k) (hC : kp_Cr A σ) (hM : kp_Mr A σ) (tl : kl_tl rec b i k) : ∃ q, q.1 = 1 ∧ f_L_law_456 L xs rec b 0 77 (nI i) σ = some q := by
  obtain ⟨v, A2, σ1, σ2, s1, s2, ok, c2, m2⟩ := kl_step (kp_qq.op hA (kq_tells hA (xs (i + 1)) (xs (i + 2)) (xs (i + 3)))) hC hM
  obtain ⟨q, q1, q2⟩ := tl A2 σ2 ok c2 m2
  refine ⟨q, q1, ?_⟩
  unfold f_L_law_456
  simp only [↓reduceIte, kl_e1 i, kl_x1 hi hL, kl_c1 hi hL, kl_e2 i, kl_x2 hi hL, kl_c2 hi hL, kl_e3 i, kl_x3 hi hL, kl_c3 hi hL, kl_e4 i, kl_x4 hi hL, kl_c4 hi hL, kl_e5 i, kl_x5 hi hL, kl_c5 hi hL]
  refine (kl_two (T := f_L_law_1471 L xs rec b 0 77 (nI i)) s1 s2).trans ?_
  rw [kl_6]; exact q2
theorem kl_c_lift {L b i k : Nat} {xs : Nat → Int32} {rec : Nat → Nat → Nat → Int32 → kf_St → Option (Int32 × kf_St)} {A : kp_A} {σ : kf_St} (hi : i + 6 ≤ L) (hL : L ≤ 3072) (hk : k ≤ 512) (hA : kp_Aok A k) (hC : kp_Cr A σ) (hM : kp_Mr A σ) (tl : kl_tl rec b i k) : ∃ q, q.1 = 1 ∧ f_L_law_499 L xs rec b 0 77 (nI i) σ = some q := by
  obtain ⟨v, A2, σ1, σ2, s1, s2, ok, c2, m2⟩ := kl_step (ko_lift hA (xs (i + 1)) (xs (i + 2))) hC hM
  obtain ⟨q, q1, q2⟩ := tl A2 σ2 ok c2 m2
  refine ⟨q, q1, ?_⟩
  unfold f_L_law_499
  simp only [↓reduceIte, kl_e1 i, kl_x1 hi hL, kl_c1 hi hL, kl_e2 i, kl_x2 hi hL, kl_c2 hi hL, kl_e3 i, kl_x3 hi hL, kl_c3 hi hL, kl_e4 i, kl_x4 hi hL, kl_c4 hi hL, kl_e5 i, kl_x5 hi hL, kl_c5 hi hL]
  refine (kl_two (T := f_L_law_1471 L xs rec b 0 77 (nI i)) s1 s2).trans ?_
  rw [kl_6]; exact q2
theorem kl_c_polish {L b i k : Nat} {xs : Nat → Int32} {rec : Nat → Nat → Nat → Int32 → kf_St → Option (Int32 × kf_St)} {A : kp_A} {σ : kf_St} (hi : i + 6 ≤ L) (hL : L ≤ 3072) (hk : k ≤ 512) (hA : kp_Aok A k) (hC : kp_Cr A σ) (hM : kp_Mr A σ) (tl : kl_tl rec b i k) : ∃ q, q.1 = 1 ∧ f_L_law_532 L xs rec b 0 77 (nI i) σ = some q := by
  obtain ⟨v, A2, σ1, σ2, s1, s2, ok, c2, m2⟩ := kl_step (ko_polish hA (xs (i + 1))) hC hM
  obtain ⟨q, q1, q2⟩ := tl A2 σ2 ok c2 m2
  refine ⟨q, q1, ?_⟩
  unfold f_L_law_532
  simp only [↓reduceIte, kl_e1 i, kl_x1 hi hL, kl_c1 hi hL, kl_e2 i, kl_x2 hi hL, kl_c2 hi hL, kl_e3 i, kl_x3 hi hL, kl_c3 hi hL, kl_e4 i, kl_x4 hi hL, kl_c4 hi hL, kl_e5 i, kl_x5 hi hL, kl_c5 hi hL]
  refine (kl_two (T := f_L_law_1471 L xs rec b 0 77 (nI i)) s1 s2).trans ?_
  rw [kl_6]; exact q2
theorem kl_c_file {L b i k : Nat} {xs : Nat → Int32} {rec : Nat → Nat → Nat → Int32 → kf_St → Option (Int32 × kf_St)} {A : kp_A} {σ : kf_St} (hi : i + 6 ≤ L) (hL : L ≤ 3072) (hk : k ≤ 512) (hA : kp_Aok A k) (hC : kp_Cr A σ) (hM : kp_Mr A σ) (tl : kl_tl rec b i k) : ∃ q, q.1 = 1 ∧ f_L_law_555 L xs rec b 0 77 (nI i) σ = some q := by
  obtain ⟨v, A2, σ1, σ2, s1, s2, ok, c2, m2⟩ := kl_step (ko_file hA (xs (i + 1)) (xs (i + 2))) hC hM
  obtain ⟨q, q1, q2⟩ := tl A2 σ2 ok c2 m2
  refine ⟨q, q1, ?_⟩
  unfold f_L_law_555
  simp only [↓reduceIte, kl_e1 i, kl_x1 hi hL, kl_c1 hi hL, kl_e2 i, kl_x2 hi hL, kl_c2 hi hL, kl_e3 i, kl_x3 hi hL, kl_c3 hi hL, kl_e4 i, kl_x4 hi hL, kl_c4 hi hL, kl_e5 i, kl_x5 hi hL, kl_c5 hi hL]
  refine (kl_two (T := f_L_law_1471 L xs rec b 0 77 (nI i)) s1 s2).trans ?_
  rw [kl_6]; exact q2
theorem kl_c_keep {L b i k : Nat} {xs : Nat → Int32} {rec : Nat → Nat → Nat → Int32 → kf_St → Option (Int32 × kf_St)} {A : kp_A} {σ : kf_St} (hi : i + 6 ≤ L) (hL : L ≤ 3072) (hk : k ≤ 512) (hA : kp_Aok A k) (hC : kp_Cr A σ) (hM : kp_Mr A σ) (tl : kl_tl rec b i k) : ∃ q, q.1 = 1 ∧ f_L_law_588 L xs rec b 0 77 (nI i) σ = some q := by
  have go : ∀ y : Int32, (y = 0 ∨ y = 1) → ∃ q, q.1 = 1 ∧ ((f_X11_keep 0 (xs (i + 1)) y σ).bind fun q => (f_X12_keep 77 (xs (i + 1)) y q.2).bind fun p => if q.1 = p.1 then f_L_law_1471 L xs rec b 0 77 (nI i) p.2 else some (0, p.2)) = some q := by
    intro y hy
    obtain ⟨v, A2, σ1, σ2, s1, s2, ok, c2, m2⟩ := kl_step (ko_keep hA (xs (i + 1)) y hy) hC hM
    obtain ⟨q, q1, q2⟩ := tl A2 σ2 ok c2 m2
    refine ⟨q, q1, ?_⟩
    refine (kl_two (T := f_L_law_1471 L xs rec b 0 77 (nI i)) s1 s2).trans ?_
    rw [kl_6]; exact q2
  unfold f_L_law_588 f_L_law_607 f_L_law_629
  simp only [↓reduceIte, kl_e1 i, kl_x1 hi hL, kl_c1 hi hL, kl_e2 i, kl_x2 hi hL, kl_c2 hi hL, kl_e3 i, kl_x3 hi hL, kl_c3 hi hL, kl_e4 i, kl_x4 hi hL, kl_c4 hi hL, kl_e5 i, kl_x5 hi hL, kl_c5 hi hL]
  by_cases c : xs (i + 2) = 0
  · simp only [c, ↓reduceIte]
    exact go 0 (Or.inl rfl)
  · simp only [c, ↓reduceIte]
    exact go 1 (Or.inr rfl)
theorem kl_c_days {L b i k : Nat} {xs : Nat → Int32} {rec : Nat → Nat → Nat → Int32 → kf_St → Option (Int32 × kf_St)} {A : kp_A} {σ : kf_St} (hi : i + 6 ≤ L) (hL : L ≤ 3072) (hk : k ≤ 512) (hA : kp_Aok A k) (hC : kp_Cr A σ) (hM : kp_Mr A σ) (tl : kl_tl rec b i k) : ∃ q, q.1 = 1 ∧ f_L_law_637 L xs rec b 0 77 (nI i) σ = some q := by
  obtain ⟨v, A2, σ1, σ2, s1, s2, ok, c2, m2⟩ := kl_step (ko_days hA (by omega) (xs (i + 1))) hC hM
  obtain ⟨q, q1, q2⟩ := tl A2 σ2 ok c2 m2
  refine ⟨q, q1, ?_⟩
  unfold f_L_law_637
  simp only [↓reduceIte, kl_e1 i, kl_x1 hi hL, kl_c1 hi hL, kl_e2 i, kl_x2 hi hL, kl_c2 hi hL, kl_e3 i, kl_x3 hi hL, kl_c3 hi hL, kl_e4 i, kl_x4 hi hL, kl_c4 hi hL, kl_e5 i, kl_x5 hi hL, kl_c5 hi hL]
  refine (kl_two (T := f_L_law_1471 L xs rec b 0 77 (nI i)) s1 s2).trans ?_
  rw [kl_6]; exact q2
theorem kl_c_undo {L b i k : Nat} {xs : Nat → Int32} {rec : Nat → Nat → Nat → Int32 → kf_St → Option (Int32 × kf_St)} {A : kp_A} {σ : kf_St} (hi : i + 6 ≤ L) (hL : L ≤ 3072) (hk : k ≤ 512) (hA : kp_Aok A k) (hC : kp_Cr A σ) (hM : kp_Mr A σ) (tl : kl_tl rec b i k) : ∃ q, q.1 = 1 ∧ f_L_law_660 L xs rec b 0 77 (nI i) σ = some q := by
  obtain ⟨v, A2, σ1, σ2, s1, s2, ok, c2, m2⟩ := kl_step (ko_undo hA) hC hM
  obtain ⟨q, q1, q2⟩ := tl A2 σ2 ok c2 m2
  refine ⟨q, q1, ?_⟩
  unfold f_L_law_660
  refine (kl_two (T := f_L_law_1471 L xs rec b 0 77 (nI i)) s1 s2).trans ?_
  rw [kl_6]; exact q2
theorem kl_c_lifts {L b i k : Nat} {xs : Nat → Int32} {rec : Nat → Nat → Nat → Int32 → kf_St → Option (Int32 × kf_St)} {A : kp_A} {σ : kf_St} (hi : i + 6 ≤ L) (hL : L ≤ 3072) (hk : k ≤ 512) (hA : kp_Aok A k) (hC : kp_Cr A σ) (hM : kp_Mr A σ) (tl : kl_tl rec b i k) : ∃ q, q.1 = 1 ∧ f_L_law_673 L xs rec b 0 77 (nI i) σ = some q := by
  obtain ⟨v, A2, σ1, σ2, s1, s2, ok, c2, m2⟩ := kl_step (kp_qq.op hA (kq_lifts hA (xs (i + 1)) (xs (i + 2)) (xs (i + 3)))) hC hM
  obtain ⟨q, q1, q2⟩ := tl A2 σ2 ok c2 m2
  refine ⟨q, q1, ?_⟩
  unfold f_L_law_673
  simp only [↓reduceIte, kl_e1 i, kl_x1 hi hL, kl_c1 hi hL, kl_e2 i, kl_x2 hi hL, kl_c2 hi hL, kl_e3 i, kl_x3 hi hL, kl_c3 hi hL, kl_e4 i, kl_x4 hi hL, kl_c4 hi hL, kl_e5 i, kl_x5 hi hL, kl_c5 hi hL]
  refine (kl_two (T := f_L_law_1471 L xs rec b 0 77 (nI i)) s1 s2).trans ?_
  rw [kl_6]; exact q2
theorem kl_c_towards {L b i k : Nat} {xs : Nat → Int32} {rec : Nat → Nat → Nat → Int32 → kf_St → Option (Int32 × kf_St)} {A : kp_A} {σ : kf_St} (hi : i + 6 ≤ L) (hL : L ≤ 3072) (hk : k ≤ 512) (hA : kp_Aok A k) (hC : kp_Cr A σ) (hM : kp_Mr A σ) (tl : kl_tl rec b i k) : ∃ q, q.1 = 1 ∧ f_L_law_716 L xs rec b 0 77 (nI i) σ = some q := by
  obtain ⟨v, A2, σ1, σ2, s1, s2, ok, c2, m2⟩ := kl_step (kp_qq.op hA (kq_towards hA (xs (i + 1)) (xs (i + 2)) (xs (i + 3)))) hC hM
  obtain ⟨q, q1, q2⟩ := tl A2 σ2 ok c2 m2
  refine ⟨q, q1, ?_⟩
  unfold f_L_law_716
  simp only [↓reduceIte, kl_e1 i, kl_x1 hi hL, kl_c1 hi hL, kl_e2 i, kl_x2 hi hL, kl_c2 hi hL, kl_e3 i, kl_x3 hi hL, kl_c3 hi hL, kl_e4 i, kl_x4 hi hL, kl_c4 hi hL, kl_e5 i, kl_x5 hi hL, kl_c5 hi hL]
  refine (kl_two (T := f_L_law_1471 L xs rec b 0 77 (nI i)) s1 s2).trans ?_
  rw [kl_6]; exact q2
theorem kl_c_without {L b i k : Nat} {xs : Nat → Int32} {rec : Nat → Nat → Nat → Int32 → kf_St → Option (Int32 × kf_St)} {A : kp_A} {σ : kf_St} (hi : i + 6 ≤ L) (hL : L ≤ 3072) (hk : k ≤ 512) (hA : kp_Aok A k) (hC : kp_Cr A σ) (hM : kp_Mr A σ) (tl : kl_tl rec b i k) : ∃ q, q.1 = 1 ∧ f_L_law_759 L xs rec b 0 77 (nI i) σ = some q := by
  obtain ⟨v, A2, σ1, σ2, s1, s2, ok, c2, m2⟩ := kl_step (kp_qq.op hA (kq_without hA (by omega) (xs (i + 1)) (xs (i + 2)))) hC hM
  obtain ⟨q, q1, q2⟩ := tl A2 σ2 ok c2 m2
  refine ⟨q, q1, ?_⟩
  unfold f_L_law_759
  simp only [↓reduceIte, kl_e1 i, kl_x1 hi hL, kl_c1 hi hL, kl_e2 i, kl_x2 hi hL, kl_c2 hi hL, kl_e3 i, kl_x3 hi hL, kl_c3 hi hL, kl_e4 i, kl_x4 hi hL, kl_c4 hi hL, kl_e5 i, kl_x5 hi hL, kl_c5 hi hL]
  refine (kl_two (T := f_L_law_1471 L xs rec b 0 77 (nI i)) s1 s2).trans ?_
  rw [kl_6]; exact q2
theorem kl_c_twins {L b i k : Nat} {xs : Nat → Int32} {rec : Nat → Nat → Nat → Int32 → kf_St → Option (Int32 × kf_St)} {A : kp_A} {σ : kf_St} (hi : i + 6 ≤ L) (hL : L ≤ 3072) (hk : k ≤ 512) (hA : kp_Aok A k) (hC : kp_Cr A σ) (hM : kp_Mr A σ) (tl : kl_tl rec b i k) : ∃ q, q.1 = 1 ∧ f_L_law_792 L xs rec b 0 77 (nI i) σ = some q := by
  obtain ⟨v, A2, σ1, σ2, s1, s2, ok, c2, m2⟩ := kl_step (kp_qq.op hA (kq_twins hA (xs (i + 1)))) hC hM
  obtain ⟨q, q1, q2⟩ := tl A2 σ2 ok c2 m2
  refine ⟨q, q1, ?_⟩
  unfold f_L_law_792
  simp only [↓reduceIte, kl_e1 i, kl_x1 hi hL, kl_c1 hi hL, kl_e2 i, kl_x2 hi hL, kl_c2 hi hL, kl_e3 i, kl_x3 hi hL, kl_c3 hi hL, kl_e4 i, kl_x4 hi hL, kl_c4 hi hL, kl_e5 i, kl_x5 hi hL, kl_c5 hi hL]
  refine (kl_two (T := f_L_law_1471 L xs rec b 0 77 (nI i)) s1 s2).trans ?_
  rw [kl_6]; exact q2
theorem kl_c_paired {L b i k : Nat} {xs : Nat → Int32} {rec : Nat → Nat → Nat → Int32 → kf_St → Option (Int32 × kf_St)} {A : kp_A} {σ : kf_St} (hi : i + 6 ≤ L) (hL : L ≤ 3072) (hk : k ≤ 512) (hA : kp_Aok A k) (hC : kp_Cr A σ) (hM : kp_Mr A σ) (tl : kl_tl rec b i k) : ∃ q, q.1 = 1 ∧ f_L_law_815 L xs rec b 0 77 (nI i) σ = some q := by
  obtain ⟨v, A2, σ1, σ2, s1, s2, ok, c2, m2⟩ := kl_step (kp_qq.op hA (kq_paired hA (xs (i + 1)))) hC hM
  obtain ⟨q, q1, q2⟩ := tl A2 σ2 ok c2 m2
  refine ⟨q, q1, ?_⟩
  unfold f_L_law_815
  simp only [↓reduceIte, kl_e1 i, kl_x1 hi hL, kl_c1 hi hL, kl_e2 i, kl_x2 hi hL, kl_c2 hi hL, kl_e3 i, kl_x3 hi hL, kl_c3 hi hL, kl_e4 i, kl_x4 hi hL, kl_c4 hi hL, kl_e5 i, kl_x5 hi hL, kl_c5 hi hL]
  refine (kl_two (T := f_L_law_1471 L xs rec b 0 77 (nI i)) s1 s2).trans ?_
  rw [kl_6]; exact q2
theorem kl_c_changes {L b i k : Nat} {xs : Nat → Int32} {rec : Nat → Nat → Nat → Int32 → kf_St → Option (Int32 × kf_St)} {A : kp_A} {σ : kf_St} (hi : i + 6 ≤ L) (hL : L ≤ 3072) (hk : k ≤ 512) (hA : kp_Aok A k) (hC : kp_Cr A σ) (hM : kp_Mr A σ) (tl : kl_tl rec b i k) : ∃ q, q.1 = 1 ∧ f_L_law_838 L xs rec b 0 77 (nI i) σ = some q := by
  obtain ⟨v, A2, σ1, σ2, s1, s2, ok, c2, m2⟩ := kl_step (kp_qq.op hA (kq_changes hA (by omega) (xs (i + 1)))) hC hM
  obtain ⟨q, q1, q2⟩ := tl A2 σ2 ok c2 m2
  refine ⟨q, q1, ?_⟩
  unfold f_L_law_838
  simp only [↓reduceIte, kl_e1 i, kl_x1 hi hL, kl_c1 hi hL, kl_e2 i, kl_x2 hi hL, kl_c2 hi hL, kl_e3 i, kl_x3 hi hL, kl_c3 hi hL, kl_e4 i, kl_x4 hi hL, kl_c4 hi hL, kl_e5 i, kl_x5 hi hL, kl_c5 hi hL]
  refine (kl_two (T := f_L_law_1471 L xs rec b 0 77 (nI i)) s1 s2).trans ?_
  rw [kl_6]; exact q2
theorem kl_c_rubs {L b i k : Nat} {xs : Nat → Int32} {rec : Nat → Nat → Nat → Int32 → kf_St → Option (Int32 × kf_St)} {A : kp_A} {σ : kf_St} (hi : i + 6 ≤ L) (hL : L ≤ 3072) (hk : k ≤ 512) (hA : kp_Aok A k) (hC : kp_Cr A σ) (hM : kp_Mr A σ) (tl : kl_tl rec b i k) : ∃ q, q.1 = 1 ∧ f_L_law_861 L xs rec b 0 77 (nI i) σ = some q := by
  obtain ⟨v, A2, σ1, σ2, s1, s2, ok, c2, m2⟩ := kl_step (kp_qq.op hA (kq_rubs hA (xs (i + 1)))) hC hM
  obtain ⟨q, q1, q2⟩ := tl A2 σ2 ok c2 m2
  refine ⟨q, q1, ?_⟩
  unfold f_L_law_861
  simp only [↓reduceIte, kl_e1 i, kl_x1 hi hL, kl_c1 hi hL, kl_e2 i, kl_x2 hi hL, kl_c2 hi hL, kl_e3 i, kl_x3 hi hL, kl_c3 hi hL, kl_e4 i, kl_x4 hi hL, kl_c4 hi hL, kl_e5 i, kl_x5 hi hL, kl_c5 hi hL]
  refine (kl_two (T := f_L_law_1471 L xs rec b 0 77 (nI i)) s1 s2).trans ?_
  rw [kl_6]; exact q2
theorem kl_c_when {L b i k : Nat} {xs : Nat → Int32} {rec : Nat → Nat → Nat → Int32 → kf_St → Option (Int32 × kf_St)} {A : kp_A} {σ : kf_St} (hi : i + 6 ≤ L) (hL : L ≤ 3072) (hk : k ≤ 512) (hA : kp_Aok A k) (hC : kp_Cr A σ) (hM : kp_Mr A σ) (tl : kl_tl rec b i k) : ∃ q, q.1 = 1 ∧ f_L_law_884 L xs rec b 0 77 (nI i) σ = some q := by
  obtain ⟨v, A2, σ1, σ2, s1, s2, ok, c2, m2⟩ := kl_step (kp_qq.op hA (kq_when hA (by omega) (xs (i + 1)) (xs (i + 2)))) hC hM
  obtain ⟨q, q1, q2⟩ := tl A2 σ2 ok c2 m2
  refine ⟨q, q1, ?_⟩
  unfold f_L_law_884
  simp only [↓reduceIte, kl_e1 i, kl_x1 hi hL, kl_c1 hi hL, kl_e2 i, kl_x2 hi hL, kl_c2 hi hL, kl_e3 i, kl_x3 hi hL, kl_c3 hi hL, kl_e4 i, kl_x4 hi hL, kl_c4 hi hL, kl_e5 i, kl_x5 hi hL, kl_c5 hi hL]
  refine (kl_two (T := f_L_law_1471 L xs rec b 0 77 (nI i)) s1 s2).trans ?_
  rw [kl_6]; exact q2
theorem kl_c_alone {L b i k : Nat} {xs : Nat → Int32} {rec : Nat → Nat → Nat → Int32 → kf_St → Option (Int32 × kf_St)} {A : kp_A} {σ : kf_St} (hi : i + 6 ≤ L) (hL : L ≤ 3072) (hk : k ≤ 512) (hA : kp_Aok A k) (hC : kp_Cr A σ) (hM : kp_Mr A σ) (tl : kl_tl rec b i k) : ∃ q, q.1 = 1 ∧ f_L_law_917 L xs rec b 0 77 (nI i) σ = some q := by
  obtain ⟨v, A2, σ1, σ2, s1, s2, ok, c2, m2⟩ := kl_step (kp_qq.op hA (kq_alone hA (xs (i + 1)) (xs (i + 2)))) hC hM
  obtain ⟨q, q1, q2⟩ := tl A2 σ2 ok c2 m2
  refine ⟨q, q1, ?_⟩
  unfold f_L_law_917
  simp only [↓reduceIte, kl_e1 i, kl_x1 hi hL, kl_c1 hi hL, kl_e2 i, kl_x2 hi hL, kl_c2 hi hL, kl_e3 i, kl_x3 hi hL, kl_c3 hi hL, kl_e4 i, kl_x4 hi hL, kl_c4 hi hL, kl_e5 i, kl_x5 hi hL, kl_c5 hi hL]
  refine (kl_two (T := f_L_law_1471 L xs rec b 0 77 (nI i)) s1 s2).trans ?_
  rw [kl_6]; exact q2
theorem kl_c_confused {L b i k : Nat} {xs : Nat → Int32} {rec : Nat → Nat → Nat → Int32 → kf_St → Option (Int32 × kf_St)} {A : kp_A} {σ : kf_St} (hi : i + 6 ≤ L) (hL : L ≤ 3072) (hk : k ≤ 512) (hA : kp_Aok A k) (hC : kp_Cr A σ) (hM : kp_Mr A σ) (tl : kl_tl rec b i k) : ∃ q, q.1 = 1 ∧ f_L_law_950 L xs rec b 0 77 (nI i) σ = some q := by
  obtain ⟨v, A2, σ1, σ2, s1, s2, ok, c2, m2⟩ := kl_step (kp_qq.op hA (kq_confused hA (xs (i + 1)))) hC hM
  obtain ⟨q, q1, q2⟩ := tl A2 σ2 ok c2 m2
  refine ⟨q, q1, ?_⟩
  unfold f_L_law_950
  simp only [↓reduceIte, kl_e1 i, kl_x1 hi hL, kl_c1 hi hL, kl_e2 i, kl_x2 hi hL, kl_c2 hi hL, kl_e3 i, kl_x3 hi hL, kl_c3 hi hL, kl_e4 i, kl_x4 hi hL, kl_c4 hi hL, kl_e5 i, kl_x5 hi hL, kl_c5 hi hL]
  refine (kl_two (T := f_L_law_1471 L xs rec b 0 77 (nI i)) s1 s2).trans ?_
  rw [kl_6]; exact q2
theorem kl_c_nearest {L b i k : Nat} {xs : Nat → Int32} {rec : Nat → Nat → Nat → Int32 → kf_St → Option (Int32 × kf_St)} {A : kp_A} {σ : kf_St} (hi : i + 6 ≤ L) (hL : L ≤ 3072) (hk : k ≤ 512) (hA : kp_Aok A k) (hC : kp_Cr A σ) (hM : kp_Mr A σ) (tl : kl_tl rec b i k) : ∃ q, q.1 = 1 ∧ f_L_law_973 L xs rec b 0 77 (nI i) σ = some q := by
  obtain ⟨v, A2, σ1, σ2, s1, s2, ok, c2, m2⟩ := kl_step (kp_qq.op hA (kq_nearest hA (xs (i + 1)) (xs (i + 2)))) hC hM
  obtain ⟨q, q1, q2⟩ := tl A2 σ2 ok c2 m2
  refine ⟨q, q1, ?_⟩
  unfold f_L_law_973
  simp only [↓reduceIte, kl_e1 i, kl_x1 hi hL, kl_c1 hi hL, kl_e2 i, kl_x2 hi hL, kl_c2 hi hL, kl_e3 i, kl_x3 hi hL, kl_c3 hi hL, kl_e4 i, kl_x4 hi hL, kl_c4 hi hL, kl_e5 i, kl_x5 hi hL, kl_c5 hi hL]
  refine (kl_two (T := f_L_law_1471 L xs rec b 0 77 (nI i)) s1 s2).trans ?_
  rw [kl_6]; exact q2
theorem kl_c_same {L b i k : Nat} {xs : Nat → Int32} {rec : Nat → Nat → Nat → Int32 → kf_St → Option (Int32 × kf_St)} {A : kp_A} {σ : kf_St} (hi : i + 6 ≤ L) (hL : L ≤ 3072) (hk : k ≤ 512) (hA : kp_Aok A k) (hC : kp_Cr A σ) (hM : kp_Mr A σ) (tl : kl_tl rec b i k) : ∃ q, q.1 = 1 ∧ f_L_law_1006 L xs rec b 0 77 (nI i) σ = some q := by
  obtain ⟨v, A2, σ1, σ2, s1, s2, ok, c2, m2⟩ := kl_step (kp_qq.op hA (kq_same hA (xs (i + 1)) (xs (i + 2)))) hC hM
  obtain ⟨q, q1, q2⟩ := tl A2 σ2 ok c2 m2
  refine ⟨q, q1, ?_⟩
  unfold f_L_law_1006
  simp only [↓reduceIte, kl_e1 i, kl_x1 hi hL, kl_c1 hi hL, kl_e2 i, kl_x2 hi hL, kl_c2 hi hL, kl_e3 i, kl_x3 hi hL, kl_c3 hi hL, kl_e4 i, kl_x4 hi hL, kl_c4 hi hL, kl_e5 i, kl_x5 hi hL, kl_c5 hi hL]
  refine (kl_two (T := f_L_law_1471 L xs rec b 0 77 (nI i)) s1 s2).trans ?_
  rw [kl_6]; exact q2
theorem kl_c_shift {L b i k : Nat} {xs : Nat → Int32} {rec : Nat → Nat → Nat → Int32 → kf_St → Option (Int32 × kf_St)} {A : kp_A} {σ : kf_St} (hi : i + 6 ≤ L) (hL : L ≤ 3072) (hk : k ≤ 512) (hA : kp_Aok A k) (hC : kp_Cr A σ) (hM : kp_Mr A σ) (tl : kl_tl rec b i k) : ∃ q, q.1 = 1 ∧ f_L_law_1039 L xs rec b 0 77 (nI i) σ = some q := by
  obtain ⟨v, A2, σ1, σ2, s1, s2, ok, c2, m2⟩ := kl_step (kp_qq.op hA (kq_shift hA (by omega) (xs (i + 1)) (xs (i + 2)))) hC hM
  obtain ⟨q, q1, q2⟩ := tl A2 σ2 ok c2 m2
  refine ⟨q, q1, ?_⟩
  unfold f_L_law_1039
  simp only [↓reduceIte, kl_e1 i, kl_x1 hi hL, kl_c1 hi hL, kl_e2 i, kl_x2 hi hL, kl_c2 hi hL, kl_e3 i, kl_x3 hi hL, kl_c3 hi hL, kl_e4 i, kl_x4 hi hL, kl_c4 hi hL, kl_e5 i, kl_x5 hi hL, kl_c5 hi hL]
  refine (kl_two (T := f_L_law_1471 L xs rec b 0 77 (nI i)) s1 s2).trans ?_
  rw [kl_6]; exact q2
theorem kl_c_calls {L b i k : Nat} {xs : Nat → Int32} {rec : Nat → Nat → Nat → Int32 → kf_St → Option (Int32 × kf_St)} {A : kp_A} {σ : kf_St} (hi : i + 6 ≤ L) (hL : L ≤ 3072) (hk : k ≤ 512) (hA : kp_Aok A k) (hC : kp_Cr A σ) (hM : kp_Mr A σ) (tl : kl_tl rec b i k) : ∃ q, q.1 = 1 ∧ f_L_law_1072 L xs rec b 0 77 (nI i) σ = some q := by
  obtain ⟨v, A2, σ1, σ2, s1, s2, ok, c2, m2⟩ := kl_step (kp_qq.op hA (kq_calls hA (by omega) (xs (i + 1)) (xs (i + 2)))) hC hM
  obtain ⟨q, q1, q2⟩ := tl A2 σ2 ok c2 m2
  refine ⟨q, q1, ?_⟩
  unfold f_L_law_1072
  simp only [↓reduceIte, kl_e1 i, kl_x1 hi hL, kl_c1 hi hL, kl_e2 i, kl_x2 hi hL, kl_c2 hi hL, kl_e3 i, kl_x3 hi hL, kl_c3 hi hL, kl_e4 i, kl_x4 hi hL, kl_c4 hi hL, kl_e5 i, kl_x5 hi hL, kl_c5 hi hL]
  refine (kl_two (T := f_L_law_1471 L xs rec b 0 77 (nI i)) s1 s2).trans ?_
  rw [kl_6]; exact q2
theorem kl_c_richest {L b i k : Nat} {xs : Nat → Int32} {rec : Nat → Nat → Nat → Int32 → kf_St → Option (Int32 × kf_St)} {A : kp_A} {σ : kf_St} (hi : i + 6 ≤ L) (hL : L ≤ 3072) (hk : k ≤ 512) (hA : kp_Aok A k) (hC : kp_Cr A σ) (hM : kp_Mr A σ) (tl : kl_tl rec b i k) : ∃ q, q.1 = 1 ∧ f_L_law_1105 L xs rec b 0 77 (nI i) σ = some q := by
  obtain ⟨v, A2, σ1, σ2, s1, s2, ok, c2, m2⟩ := kl_step (kp_qq.op hA (kq_richest hA (by omega) (xs (i + 1)) (xs (i + 2)))) hC hM
  obtain ⟨q, q1, q2⟩ := tl A2 σ2 ok c2 m2
  refine ⟨q, q1, ?_⟩
  unfold f_L_law_1105
  simp only [↓reduceIte, kl_e1 i, kl_x1 hi hL, kl_c1 hi hL, kl_e2 i, kl_x2 hi hL, kl_c2 hi hL, kl_e3 i, kl_x3 hi hL, kl_c3 hi hL, kl_e4 i, kl_x4 hi hL, kl_c4 hi hL, kl_e5 i, kl_x5 hi hL, kl_c5 hi hL]
  refine (kl_two (T := f_L_law_1471 L xs rec b 0 77 (nI i)) s1 s2).trans ?_
  rw [kl_6]; exact q2
theorem kl_c_flat {L b i k : Nat} {xs : Nat → Int32} {rec : Nat → Nat → Nat → Int32 → kf_St → Option (Int32 × kf_St)} {A : kp_A} {σ : kf_St} (hi : i + 6 ≤ L) (hL : L ≤ 3072) (hk : k ≤ 512) (hA : kp_Aok A k) (hC : kp_Cr A σ) (hM : kp_Mr A σ) (tl : kl_tl rec b i k) : ∃ q, q.1 = 1 ∧ f_L_law_1138 L xs rec b 0 77 (nI i) σ = some q := by
  obtain ⟨v, A2, σ1, σ2, s1, s2, ok, c2, m2⟩ := kl_step (kp_qq.op hA (kq_flat hA (xs (i + 1)))) hC hM
  obtain ⟨q, q1, q2⟩ := tl A2 σ2 ok c2 m2
  refine ⟨q, q1, ?_⟩
  unfold f_L_law_1138
  simp only [↓reduceIte, kl_e1 i, kl_x1 hi hL, kl_c1 hi hL, kl_e2 i, kl_x2 hi hL, kl_c2 hi hL, kl_e3 i, kl_x3 hi hL, kl_c3 hi hL, kl_e4 i, kl_x4 hi hL, kl_c4 hi hL, kl_e5 i, kl_x5 hi hL, kl_c5 hi hL]
  refine (kl_two (T := f_L_law_1471 L xs rec b 0 77 (nI i)) s1 s2).trans ?_
  rw [kl_6]; exact q2
theorem kl_c_then {L b i k : Nat} {xs : Nat → Int32} {rec : Nat → Nat → Nat → Int32 → kf_St → Option (Int32 × kf_St)} {A : kp_A} {σ : kf_St} (hi : i + 6 ≤ L) (hL : L ≤ 3072) (hk : k ≤ 512) (hA : kp_Aok A k) (hC : kp_Cr A σ) (hM : kp_Mr A σ) (tl : kl_tl rec b i k) : ∃ q, q.1 = 1 ∧ f_L_law_1161 L xs rec b 0 77 (nI i) σ = some q := by
  obtain ⟨v, A2, σ1, σ2, s1, s2, ok, c2, m2⟩ := kl_step (kp_qq.op hA (kq_then hA (by omega) (xs (i + 1)) (xs (i + 2)) (xs (i + 3)))) hC hM
  obtain ⟨q, q1, q2⟩ := tl A2 σ2 ok c2 m2
  refine ⟨q, q1, ?_⟩
  unfold f_L_law_1161
  simp only [↓reduceIte, kl_e1 i, kl_x1 hi hL, kl_c1 hi hL, kl_e2 i, kl_x2 hi hL, kl_c2 hi hL, kl_e3 i, kl_x3 hi hL, kl_c3 hi hL, kl_e4 i, kl_x4 hi hL, kl_c4 hi hL, kl_e5 i, kl_x5 hi hL, kl_c5 hi hL]
  refine (kl_two (T := f_L_law_1471 L xs rec b 0 77 (nI i)) s1 s2).trans ?_
  rw [kl_6]; exact q2
theorem kl_c_busy {L b i k : Nat} {xs : Nat → Int32} {rec : Nat → Nat → Nat → Int32 → kf_St → Option (Int32 × kf_St)} {A : kp_A} {σ : kf_St} (hi : i + 6 ≤ L) (hL : L ≤ 3072) (hk : k ≤ 512) (hA : kp_Aok A k) (hC : kp_Cr A σ) (hM : kp_Mr A σ) (tl : kl_tl rec b i k) : ∃ q, q.1 = 1 ∧ f_L_law_1204 L xs rec b 0 77 (nI i) σ = some q := by
  obtain ⟨v, A2, σ1, σ2, s1, s2, ok, c2, m2⟩ := kl_step (kp_qq.op hA (kq_busy hA (by omega) (xs (i + 1)) (xs (i + 2)))) hC hM
  obtain ⟨q, q1, q2⟩ := tl A2 σ2 ok c2 m2
  refine ⟨q, q1, ?_⟩
  unfold f_L_law_1204
  simp only [↓reduceIte, kl_e1 i, kl_x1 hi hL, kl_c1 hi hL, kl_e2 i, kl_x2 hi hL, kl_c2 hi hL, kl_e3 i, kl_x3 hi hL, kl_c3 hi hL, kl_e4 i, kl_x4 hi hL, kl_c4 hi hL, kl_e5 i, kl_x5 hi hL, kl_c5 hi hL]
  refine (kl_two (T := f_L_law_1471 L xs rec b 0 77 (nI i)) s1 s2).trans ?_
  rw [kl_6]; exact q2
theorem kl_c_year {L b i k : Nat} {xs : Nat → Int32} {rec : Nat → Nat → Nat → Int32 → kf_St → Option (Int32 × kf_St)} {A : kp_A} {σ : kf_St} (hi : i + 6 ≤ L) (hL : L ≤ 3072) (hk : k ≤ 512) (hA : kp_Aok A k) (hC : kp_Cr A σ) (hM : kp_Mr A σ) (tl : kl_tl rec b i k) : ∃ q, q.1 = 1 ∧ f_L_law_1237 L xs rec b 0 77 (nI i) σ = some q := by
  obtain ⟨v, A2, σ1, σ2, s1, s2, ok, c2, m2⟩ := kl_step (kp_qq.op hA (kq_year hA (by omega) (xs (i + 1)) (xs (i + 2)) (xs (i + 3)) (xs (i + 4)))) hC hM
  obtain ⟨q, q1, q2⟩ := tl A2 σ2 ok c2 m2
  refine ⟨q, q1, ?_⟩
  unfold f_L_law_1237
  simp only [↓reduceIte, kl_e1 i, kl_x1 hi hL, kl_c1 hi hL, kl_e2 i, kl_x2 hi hL, kl_c2 hi hL, kl_e3 i, kl_x3 hi hL, kl_c3 hi hL, kl_e4 i, kl_x4 hi hL, kl_c4 hi hL, kl_e5 i, kl_x5 hi hL, kl_c5 hi hL]
  refine (kl_two (T := f_L_law_1471 L xs rec b 0 77 (nI i)) s1 s2).trans ?_
  rw [kl_6]; exact q2
theorem kl_c_tell {L b i k : Nat} {xs : Nat → Int32} {rec : Nat → Nat → Nat → Int32 → kf_St → Option (Int32 × kf_St)} {A : kp_A} {σ : kf_St} (hi : i + 6 ≤ L) (hL : L ≤ 3072) (hk : k ≤ 512) (hA : kp_Aok A k) (hC : kp_Cr A σ) (hM : kp_Mr A σ) (tl : kl_tl rec b i k) : ∃ q, q.1 = 1 ∧ f_L_law_1290 L xs rec b 0 77 (nI i) σ = some q := by
  obtain ⟨v, A2, σ1, σ2, s1, s2, ok, c2, m2⟩ := kl_step (ko_tell hA (xs (i + 1)) (xs (i + 2)) (xs (i + 3))) hC hM
  obtain ⟨q, q1, q2⟩ := tl A2 σ2 ok c2 m2
  refine ⟨q, q1, ?_⟩
  unfold f_L_law_1290
  simp only [↓reduceIte, kl_e1 i, kl_x1 hi hL, kl_c1 hi hL, kl_e2 i, kl_x2 hi hL, kl_c2 hi hL, kl_e3 i, kl_x3 hi hL, kl_c3 hi hL, kl_e4 i, kl_x4 hi hL, kl_c4 hi hL, kl_e5 i, kl_x5 hi hL, kl_c5 hi hL]
  refine (kl_two (T := f_L_law_1471 L xs rec b 0 77 (nI i)) s1 s2).trans ?_
  rw [kl_6]; exact q2
theorem kl_c_forget {L b i k : Nat} {xs : Nat → Int32} {rec : Nat → Nat → Nat → Int32 → kf_St → Option (Int32 × kf_St)} {A : kp_A} {σ : kf_St} (hi : i + 6 ≤ L) (hL : L ≤ 3072) (hk : k ≤ 512) (hA : kp_Aok A k) (hC : kp_Cr A σ) (hM : kp_Mr A σ) (tl : kl_tl rec b i k) : ∃ q, q.1 = 1 ∧ f_L_law_1333 L xs rec b 0 77 (nI i) σ = some q := by
  obtain ⟨v, A2, σ1, σ2, s1, s2, ok, c2, m2⟩ := kl_step (ko_forget hA) hC hM
  obtain ⟨q, q1, q2⟩ := tl A2 σ2 ok c2 m2
  refine ⟨q, q1, ?_⟩
  unfold f_L_law_1333
  refine (kl_two (T := f_L_law_1471 L xs rec b 0 77 (nI i)) s1 s2).trans ?_
  rw [kl_6]; exact q2
theorem kl_c_who {L b i k : Nat} {xs : Nat → Int32} {rec : Nat → Nat → Nat → Int32 → kf_St → Option (Int32 × kf_St)} {A : kp_A} {σ : kf_St} (hi : i + 6 ≤ L) (hL : L ≤ 3072) (hk : k ≤ 512) (hA : kp_Aok A k) (hC : kp_Cr A σ) (hM : kp_Mr A σ) (tl : kl_tl rec b i k) : ∃ q, q.1 = 1 ∧ f_L_law_1346 L xs rec b 0 77 (nI i) σ = some q := by
  obtain ⟨v, A2, σ1, σ2, s1, s2, ok, c2, m2⟩ := kl_step (kp_qq.op hA (kq_who hA (xs (i + 1)) (xs (i + 2)))) hC hM
  obtain ⟨q, q1, q2⟩ := tl A2 σ2 ok c2 m2
  refine ⟨q, q1, ?_⟩
  unfold f_L_law_1346
  simp only [↓reduceIte, kl_e1 i, kl_x1 hi hL, kl_c1 hi hL, kl_e2 i, kl_x2 hi hL, kl_c2 hi hL, kl_e3 i, kl_x3 hi hL, kl_c3 hi hL, kl_e4 i, kl_x4 hi hL, kl_c4 hi hL, kl_e5 i, kl_x5 hi hL, kl_c5 hi hL]
  refine (kl_two (T := f_L_law_1471 L xs rec b 0 77 (nI i)) s1 s2).trans ?_
  rw [kl_6]; exact q2
theorem kl_c_ask {L b i k : Nat} {xs : Nat → Int32} {rec : Nat → Nat → Nat → Int32 → kf_St → Option (Int32 × kf_St)} {A : kp_A} {σ : kf_St} (hi : i + 6 ≤ L) (hL : L ≤ 3072) (hk : k ≤ 512) (hA : kp_Aok A k) (hC : kp_Cr A σ) (hM : kp_Mr A σ) (tl : kl_tl rec b i k) : ∃ q, q.1 = 1 ∧ f_L_law_1379 L xs rec b 0 77 (nI i) σ = some q := by
  obtain ⟨v, A2, σ1, σ2, s1, s2, ok, c2, m2⟩ := kl_step (kp_qq.op hA (kq_ask hA (xs (i + 1)))) hC hM
  obtain ⟨q, q1, q2⟩ := tl A2 σ2 ok c2 m2
  refine ⟨q, q1, ?_⟩
  unfold f_L_law_1379
  simp only [↓reduceIte, kl_e1 i, kl_x1 hi hL, kl_c1 hi hL, kl_e2 i, kl_x2 hi hL, kl_c2 hi hL, kl_e3 i, kl_x3 hi hL, kl_c3 hi hL, kl_e4 i, kl_x4 hi hL, kl_c4 hi hL, kl_e5 i, kl_x5 hi hL, kl_c5 hi hL]
  refine (kl_two (T := f_L_law_1471 L xs rec b 0 77 (nI i)) s1 s2).trans ?_
  rw [kl_6]; exact q2
theorem kl_c_hold {L b i k : Nat} {xs : Nat → Int32} {rec : Nat → Nat → Nat → Int32 → kf_St → Option (Int32 × kf_St)} {A : kp_A} {σ : kf_St} (hi : i + 6 ≤ L) (hL : L ≤ 3072) (hk : k ≤ 512) (hA : kp_Aok A k) (hC : kp_Cr A σ) (hM : kp_Mr A σ) (tl : kl_tl rec b i k) : ∃ q, q.1 = 1 ∧ f_L_law_1402 L xs rec b 0 77 (nI i) σ = some q := by
  obtain ⟨v, A2, σ1, σ2, s1, s2, ok, c2, m2⟩ := kl_step (ko_hold hA (xs (i + 1))) hC hM
  obtain ⟨q, q1, q2⟩ := tl A2 σ2 ok c2 m2
  refine ⟨q, q1, ?_⟩
  unfold f_L_law_1402
  simp only [↓reduceIte, kl_e1 i, kl_x1 hi hL, kl_c1 hi hL, kl_e2 i, kl_x2 hi hL, kl_c2 hi hL, kl_e3 i, kl_x3 hi hL, kl_c3 hi hL, kl_e4 i, kl_x4 hi hL, kl_c4 hi hL, kl_e5 i, kl_x5 hi hL, kl_c5 hi hL]
  refine (kl_two (T := f_L_law_1471 L xs rec b 0 77 (nI i)) s1 s2).trans ?_
  rw [kl_6]; exact q2
theorem kl_c_restore {L b i k : Nat} {xs : Nat → Int32} {rec : Nat → Nat → Nat → Int32 → kf_St → Option (Int32 × kf_St)} {A : kp_A} {σ : kf_St} (hi : i + 6 ≤ L) (hL : L ≤ 3072) (hk : k ≤ 512) (hA : kp_Aok A k) (hC : kp_Cr A σ) (hM : kp_Mr A σ) (tl : kl_tl rec b i k) : ∃ q, q.1 = 1 ∧ f_L_law_1425 L xs rec b 0 77 (nI i) σ = some q := by
  obtain ⟨v, A2, σ1, σ2, s1, s2, ok, c2, m2⟩ := kl_step (ko_restore hA (xs (i + 1))) hC hM
  obtain ⟨q, q1, q2⟩ := tl A2 σ2 ok c2 m2
  refine ⟨q, q1, ?_⟩
  unfold f_L_law_1425
  simp only [↓reduceIte, kl_e1 i, kl_x1 hi hL, kl_c1 hi hL, kl_e2 i, kl_x2 hi hL, kl_c2 hi hL, kl_e3 i, kl_x3 hi hL, kl_c3 hi hL, kl_e4 i, kl_x4 hi hL, kl_c4 hi hL, kl_e5 i, kl_x5 hi hL, kl_c5 hi hL]
  refine (kl_two (T := f_L_law_1471 L xs rec b 0 77 (nI i)) s1 s2).trans ?_
  rw [kl_6]; exact q2
theorem kl_c_count {L b i k : Nat} {xs : Nat → Int32} {rec : Nat → Nat → Nat → Int32 → kf_St → Option (Int32 × kf_St)} {A : kp_A} {σ : kf_St} (hi : i + 6 ≤ L) (hL : L ≤ 3072) (hk : k ≤ 512) (hA : kp_Aok A k) (hC : kp_Cr A σ) (hM : kp_Mr A σ) (tl : kl_tl rec b i k) : ∃ q, q.1 = 1 ∧ f_L_law_1448 L xs rec b 0 77 (nI i) σ = some q := by
  obtain ⟨v, A2, σ1, σ2, s1, s2, ok, c2, m2⟩ := kl_step (kp_qq.op hA (kq_count hA (by omega) (xs (i + 1)))) hC hM
  obtain ⟨q, q1, q2⟩ := tl A2 σ2 ok c2 m2
  refine ⟨q, q1, ?_⟩
  unfold f_L_law_1448
  simp only [↓reduceIte, kl_e1 i, kl_x1 hi hL, kl_c1 hi hL, kl_e2 i, kl_x2 hi hL, kl_c2 hi hL, kl_e3 i, kl_x3 hi hL, kl_c3 hi hL, kl_e4 i, kl_x4 hi hL, kl_c4 hi hL, kl_e5 i, kl_x5 hi hL, kl_c5 hi hL]
  refine (kl_two (T := f_L_law_1471 L xs rec b 0 77 (nI i)) s1 s2).trans ?_
  rw [kl_6]; exact q2
theorem kl_end {L i : Nat} (hL : L ≤ 3072) (hi : i ≤ 4000) : (nI L - 6 < nI i) ↔ L < i + 6 := by
  rw [kp_ltI, show (nI L - 6).toInt = (L : Int) - 6 from pk_sub_toInt (a := L) (b := 6) (by omega) (by decide), nI_toInt (by omega)]
  omega
theorem kl_body {L b i k : Nat} {xs : Nat → Int32} {rec : Nat → Nat → Nat → Int32 → kf_St → Option (Int32 × kf_St)} {A : kp_A} {σ : kf_St} (hi : i + 6 ≤ L) (hL : L ≤ 3072) (hk : k ≤ 512) (hA : kp_Aok A k) (hC : kp_Cr A σ) (hM : kp_Mr A σ) (tl : kl_tl rec b i k) : ∃ q, q.1 = 1 ∧ f_L_law_18_s L xs rec b 0 77 (nI i) σ = some q := by
  unfold f_L_law_18_s
  rw [if_neg (fun q => absurd ((kl_end hL (by omega)).mp q) (by omega)), if_pos (kf_ixN (by omega) (by omega)), nI_clamp (by omega)]
  by_cases h0 : xs i &&& 63 = 0
  · rw [if_pos h0]; exact kl_c_feed hi hL hk hA hC hM tl
  rw [if_neg h0]
  by_cases h1 : xs i &&& 63 = 1
  · rw [if_pos h1]; exact kl_c_back hi hL hk hA hC hM tl
  rw [if_neg h1]
  by_cases h2 : xs i &&& 63 = 2
  · rw [if_pos h2]; exact kl_c_read hi hL hk hA hC hM tl
  rw [if_neg h2]
  by_cases h3 : xs i &&& 63 = 3
  · rw [if_pos h3]; exact kl_c_place hi hL hk hA hC hM tl
  rw [if_neg h3]
  by_cases h4 : xs i &&& 63 = 4
  · rw [if_pos h4]; exact kl_c_door hi hL hk hA hC hM tl
  rw [if_neg h4]
  by_cases h5 : xs i &&& 63 = 5
  · rw [if_pos h5]; exact kl_c_caller hi hL hk hA hC hM tl
  rw [if_neg h5]
  by_cases h6 : xs i &&& 63 = 6
  · rw [if_pos h6]; exact kl_c_round hi hL hk hA hC hM tl
  rw [if_neg h6]
  by_cases h7 : xs i &&& 63 = 7
  · rw [if_pos h7]; exact kl_c_unlike hi hL hk hA hC hM tl
  rw [if_neg h7]
  by_cases h8 : xs i &&& 63 = 8
  · rw [if_pos h8]; exact kl_c_tells hi hL hk hA hC hM tl
  rw [if_neg h8]
  by_cases h9 : xs i &&& 63 = 9
  · rw [if_pos h9]; exact kl_c_lift hi hL hk hA hC hM tl
  rw [if_neg h9]
  by_cases h10 : xs i &&& 63 = 10
  · rw [if_pos h10]; exact kl_c_polish hi hL hk hA hC hM tl
  rw [if_neg h10]
  by_cases h11 : xs i &&& 63 = 11
  · rw [if_pos h11]; exact kl_c_file hi hL hk hA hC hM tl
  rw [if_neg h11]
  by_cases h12 : xs i &&& 63 = 12
  · rw [if_pos h12]; exact kl_c_keep hi hL hk hA hC hM tl
  rw [if_neg h12]
  by_cases h13 : xs i &&& 63 = 13
  · rw [if_pos h13]; exact kl_c_days hi hL hk hA hC hM tl
  rw [if_neg h13]
  by_cases h14 : xs i &&& 63 = 14
  · rw [if_pos h14]; exact kl_c_undo hi hL hk hA hC hM tl
  rw [if_neg h14]
  by_cases h15 : xs i &&& 63 = 15
  · rw [if_pos h15]; exact kl_c_lifts hi hL hk hA hC hM tl
  rw [if_neg h15]
  by_cases h16 : xs i &&& 63 = 16
  · rw [if_pos h16]; exact kl_c_towards hi hL hk hA hC hM tl
  rw [if_neg h16]
  by_cases h17 : xs i &&& 63 = 17
  · rw [if_pos h17]; exact kl_c_without hi hL hk hA hC hM tl
  rw [if_neg h17]
  by_cases h18 : xs i &&& 63 = 18
  · rw [if_pos h18]; exact kl_c_twins hi hL hk hA hC hM tl
  rw [if_neg h18]
  by_cases h19 : xs i &&& 63 = 19
  · rw [if_pos h19]; exact kl_c_paired hi hL hk hA hC hM tl
  rw [if_neg h19]
  by_cases h20 : xs i &&& 63 = 20
  · rw [if_pos h20]; exact kl_c_changes hi hL hk hA hC hM tl
  rw [if_neg h20]
  by_cases h21 : xs i &&& 63 = 21
  · rw [if_pos h21]; exact kl_c_rubs hi hL hk hA hC hM tl
  rw [if_neg h21]
  by_cases h22 : xs i &&& 63 = 22
  · rw [if_pos h22]; exact kl_c_when hi hL hk hA hC hM tl
  rw [if_neg h22]
  by_cases h23 : xs i &&& 63 = 23
  · rw [if_pos h23]; exact kl_c_alone hi hL hk hA hC hM tl
  rw [if_neg h23]
  by_cases h24 : xs i &&& 63 = 24
  · rw [if_pos h24]; exact kl_c_confused hi hL hk hA hC hM tl
  rw [if_neg h24]
  by_cases h25 : xs i &&& 63 = 25
  · rw [if_pos h25]; exact kl_c_nearest hi hL hk hA hC hM tl
  rw [if_neg h25]
  by_cases h26 : xs i &&& 63 = 26
  · rw [if_pos h26]; exact kl_c_same hi hL hk hA hC hM tl
  rw [if_neg h26]
  by_cases h27 : xs i &&& 63 = 27
  · rw [if_pos h27]; exact kl_c_shift hi hL hk hA hC hM tl
  rw [if_neg h27]
  by_cases h28 : xs i &&& 63 = 28
  · rw [if_pos h28]; exact kl_c_calls hi hL hk hA hC hM tl
  rw [if_neg h28]
  by_cases h29 : xs i &&& 63 = 29
  · rw [if_pos h29]; exact kl_c_richest hi hL hk hA hC hM tl
  rw [if_neg h29]
  by_cases h30 : xs i &&& 63 = 30
  · rw [if_pos h30]; exact kl_c_flat hi hL hk hA hC hM tl
  rw [if_neg h30]
  by_cases h31 : xs i &&& 63 = 31
  · rw [if_pos h31]; exact kl_c_then hi hL hk hA hC hM tl
  rw [if_neg h31]
  by_cases h32 : xs i &&& 63 = 32
  · rw [if_pos h32]; exact kl_c_busy hi hL hk hA hC hM tl
  rw [if_neg h32]
  by_cases h33 : xs i &&& 63 = 33
  · rw [if_pos h33]; exact kl_c_year hi hL hk hA hC hM tl
  rw [if_neg h33]
  by_cases h34 : xs i &&& 63 = 34
  · rw [if_pos h34]; exact kl_c_tell hi hL hk hA hC hM tl
  rw [if_neg h34]
  by_cases h35 : xs i &&& 63 = 35
  · rw [if_pos h35]; exact kl_c_forget hi hL hk hA hC hM tl
  rw [if_neg h35]
  by_cases h36 : xs i &&& 63 = 36
  · rw [if_pos h36]; exact kl_c_who hi hL hk hA hC hM tl
  rw [if_neg h36]
  by_cases h37 : xs i &&& 63 = 37
  · rw [if_pos h37]; exact kl_c_ask hi hL hk hA hC hM tl
  rw [if_neg h37]
  by_cases h38 : xs i &&& 63 = 38
  · rw [if_pos h38]; exact kl_c_hold hi hL hk hA hC hM tl
  rw [if_neg h38]
  by_cases h39 : xs i &&& 63 = 39
  · rw [if_pos h39]; exact kl_c_restore hi hL hk hA hC hM tl
  rw [if_neg h39]
  by_cases h40 : xs i &&& 63 = 40
  · rw [if_pos h40]; exact kl_c_count hi hL hk hA hC hM tl
  rw [if_neg h40]
  rw [kl_6]
  exact tl A σ hA.mo hC hM
theorem kl_run (L b : Nat) (xs : Nat → Int32) (hL : L ≤ 3072) : ∀ n i k f A σ, i = 6 * k → L < i + 6 * (n + 1) → n < f → k + n ≤ 512 → kp_Aok A k → kp_Cr A σ → kp_Mr A σ → ∃ q : Int32 × kf_St, q.1 = 1 ∧ f_L_law_18 L xs f b 0 77 (nI i) σ = some q := by
  intro n
  induction n with
  | zero =>
    intro i k f A σ e h hf hk hA hC hM
    obtain ⟨f, rfl⟩ := kp_fuel hf
    refine ⟨(1, σ), rfl, ?_⟩
    show f_L_law_18_s L xs _ b 0 77 (nI i) σ = _
    unfold f_L_law_18_s
    rw [if_pos ((kl_end hL (by omega)).mpr (by omega))]
  | succ n ih =>
    intro i k f A σ e h hf hk hA hC hM
    obtain ⟨f, rfl⟩ := kp_fuel (show 0 < f by omega)
    by_cases c : i + 6 ≤ L
    · exact kl_body c hL (by omega) hA hC hM (fun A2 σ2 a b2 c2 => ih (i + 6) (k + 1) f A2 σ2 (by omega) (by omega) (by omega) (by omega) a b2 c2)
    · refine ⟨(1, σ), rfl, ?_⟩
      show f_L_law_18_s L xs _ b 0 77 (nI i) σ = _
      unfold f_L_law_18_s
      rw [if_pos ((kl_end hL (by omega)).mpr (by omega))]
theorem kf_pure : kf_PURE := fun L b xs hL => by
  obtain ⟨q, q1, q2⟩ := kl_run L b xs hL 512 0 0 kf_F kx_A0 kf_s0 rfl (by omega) (kf_F_gt (by decide)) (by decide) kx_A0ok kx_C0 kx_M0
  exact ⟨q, q1, q2⟩
