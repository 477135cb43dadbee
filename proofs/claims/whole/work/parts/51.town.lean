/-! ===== pure: what a text tells, and how both sides hold it ===== -/
abbrev kp_Lw : Type := (Nat → Int32) → Int32
/-- (doors, callers, rounds), (first faces, callers' faces), (round's caller, door, every, from), (wind, near, seed), (gives, wears, pays) -/
abbrev kp_T : Type := (Nat × Nat × Nat) × ((Nat → Nat → Int32) × (Nat → Nat → Int32)) × ((Nat → Nat) × (Nat → Nat) × (Nat → Nat) × (Nat → Nat)) × (Nat × Nat × Nat) × (kp_Lw × kp_Lw × kp_Lw)
abbrev kt_nd (T : kp_T) : Nat := T.1.1
abbrev kt_nc (T : kp_T) : Nat := T.1.2.1
abbrev kt_nr (T : kp_T) : Nat := T.1.2.2
abbrev kt_fi (T : kp_T) : Nat → Nat → Int32 := T.2.1.1
abbrev kt_lo (T : kp_T) : Nat → Nat → Int32 := T.2.1.2
abbrev kt_rc (T : kp_T) : Nat → Nat := T.2.2.1.1
abbrev kt_rd (T : kp_T) : Nat → Nat := T.2.2.1.2.1
abbrev kt_ev (T : kp_T) : Nat → Nat := T.2.2.1.2.2.1
abbrev kt_fr (T : kp_T) : Nat → Nat := T.2.2.1.2.2.2
abbrev kt_wi (T : kp_T) : Nat := T.2.2.2.1.1
abbrev kt_ne (T : kp_T) : Nat := T.2.2.2.1.2.1
abbrev kt_se (T : kp_T) : Nat := T.2.2.2.1.2.2
abbrev kt_lg (T : kp_T) : kp_Lw := T.2.2.2.2.1
abbrev kt_lw (T : kp_T) : kp_Lw := T.2.2.2.2.2.1
abbrev kt_lp (T : kp_T) : kp_Lw := T.2.2.2.2.2.2
/-- a law looks at nine numbers -/
def kp_L9 (L : kp_Lw) : Prop := ∀ v w : Nat → Int32, (∀ i, i < 9 → v i = w i) → L v = L w
def kp_Tok (T : kp_T) : Prop := (kt_nd T ≤ 6 ∧ kt_nc T ≤ 5 ∧ kt_nr T ≤ 10) ∧ (∀ d, d < kt_nd T → ∀ p, p < 4 → kp_sm (kt_fi T d p)) ∧ (∀ c, c < kt_nc T → ∀ p, p < 4 → kp_sm (kt_lo T c p)) ∧ (∀ r, r < kt_nr T → kt_rc T r < kt_nc T ∧ kt_rd T r < kt_nd T ∧ 1 ≤ kt_ev T r ∧ kt_ev T r ≤ 30 ∧ kt_fr T r ≤ 29) ∧ (kt_wi T ≤ 100 ∧ kt_ne T ≤ 396 ∧ kt_se T ≤ 9999) ∧ kp_L9 (kt_lg T) ∧ kp_L9 (kt_lw T) ∧ kp_L9 (kt_lp T)
/-- the class's law at a: what worth answers, whatever else there is; its stack alone changes -/
def kp_LC (a : Nat) (L : kp_Lw) (σ : kf_St) : Prop := ∀ σ' : kf_St, σ'.1 a = σ.1 a → σ'.1 (a + 1) = σ.1 (a + 1) → ∃ σ'', f_X2_worth a 64 σ' = some (L (σ'.1 64), σ'') ∧ kp_ch (fun k => k = a + 2) σ' σ''
def kp_CT (T : kp_T) (σ : kf_St) : Prop := (σ.1 7 0 = nI (kt_nd T) ∧ σ.1 7 1 = nI (kt_nc T) ∧ σ.1 7 2 = nI (kt_nr T)) ∧ (σ.1 7 3 = nI (kt_wi T) ∧ σ.1 7 4 = nI (kt_ne T) ∧ σ.1 7 5 = nI (kt_se T)) ∧ (∀ d, d < kt_nd T → ∀ p, p < 4 → σ.1 10 (4 * d + p) = kt_fi T d p) ∧ (∀ c, c < kt_nc T → ∀ p, p < 4 → σ.1 11 (4 * c + p) = kt_lo T c p) ∧ (∀ r, r < kt_nr T → σ.1 12 r = nI (kt_rc T r) ∧ σ.1 13 r = nI (kt_rd T r) ∧ σ.1 14 r = nI (kt_ev T r) ∧ σ.1 15 r = nI (kt_fr T r)) ∧ kp_LC 16 (kt_lg T) σ ∧ kp_LC 19 (kt_lw T) σ ∧ kp_LC 22 (kt_lp T) σ
/-- the reference's law k: what lawTells answers; its pile and isBroken alone change -/
def kp_chM (S : Nat → Prop) (J : Nat → Prop) (σ σ' : kf_St) : Prop := (∀ k, ¬ S k → k ≠ 77 → σ'.1 k = σ.1 k) ∧ (∀ j, ¬ J j → σ'.1 77 j = σ.1 77 j) ∧ σ'.2 = σ.2
/-- alike in what a side's laws stand on -/
def kp_ag (lv : Nat) (σ σ' : kf_St) : Prop := (∀ r, r = 99 ∨ r = 100 → ∀ j, 3 * lv ≤ j → j < 3 * lv + 3 → σ'.1 r j = σ.1 r j) ∧ (∀ r, 101 ≤ r → r ≤ 105 → ∀ j, 130 * lv ≤ j → j < 130 * lv + 130 → σ'.1 r j = σ.1 r j) ∧ (∀ r, r = 106 ∨ r = 107 → ∀ j, 420 * lv ≤ j → j < 420 * lv + 420 → σ'.1 r j = σ.1 r j)
theorem kp_ag.rf {lv : Nat} {σ : kf_St} : kp_ag lv σ σ := ⟨fun _ _ _ _ _ => rfl, fun _ _ _ _ _ _ => rfl, fun _ _ _ _ _ => rfl⟩
theorem kp_ag.tr {lv : Nat} {a b c : kf_St} (h : kp_ag lv a b) (h2 : kp_ag lv b c) : kp_ag lv a c := ⟨fun r hr j x y => (h2.1 r hr j x y).trans (h.1 r hr j x y), fun r h3 h4 j x y => (h2.2.1 r h3 h4 j x y).trans (h.2.1 r h3 h4 j x y), fun r hr j x y => (h2.2.2 r hr j x y).trans (h.2.2 r hr j x y)⟩
theorem kp_ag.of {lv : Nat} {σ τ : kf_St} (e : ∀ r, 99 ≤ r → r ≤ 107 → τ.1 r = σ.1 r) : kp_ag lv σ τ := ⟨fun r hr j _ _ => by rw [e r (by omega) (by omega)], fun r h1 h2 j _ _ => by rw [e r (by omega) (by omega)], fun r hr j _ _ => by rw [e r (by omega) (by omega)]⟩
def kp_LM (k : Nat) (pl : Int32) (L : kp_Lw) (lv : Nat) (σ : kf_St) : Prop := ∀ σ' : kf_St, kp_ag lv σ σ' → σ'.1 77 18 = σ.1 77 18 → ∃ σ'', f_X12_lawTells 77 (nI k) pl σ' = some (L (σ'.1 109), σ'') ∧ kp_chM (fun r => r = 110) (fun j => j = 50) σ' σ''
def kp_MT (T : kp_T) (lv : Nat) (σ : kf_St) : Prop := lv < 2 ∧ σ.1 77 18 = nI lv ∧ (σ.1 87 lv = nI (kt_nd T) ∧ σ.1 89 lv = nI (kt_nc T) ∧ σ.1 91 lv = nI (kt_nr T)) ∧ (σ.1 96 lv = nI (kt_wi T) ∧ σ.1 97 lv = nI (kt_ne T) ∧ σ.1 98 lv = nI (kt_se T)) ∧ (∀ d, d < kt_nd T → ∀ p, p < 4 → σ.1 88 (24 * lv + 4 * d + p) = kt_fi T d p) ∧ (∀ c, c < kt_nc T → ∀ p, p < 4 → σ.1 90 (20 * lv + 4 * c + p) = kt_lo T c p) ∧ (∀ r, r < kt_nr T → σ.1 92 (10 * lv + r) = nI (kt_rc T r) ∧ σ.1 93 (10 * lv + r) = nI (kt_rd T r) ∧ σ.1 94 (10 * lv + r) = nI (kt_ev T r) ∧ σ.1 95 (10 * lv + r) = nI (kt_fr T r)) ∧ kp_LM 0 1 (kt_lg T) lv σ ∧ kp_LM 1 0 (kt_lw T) lv σ ∧ kp_LM 2 1 (kt_lp T) lv σ
/-! whether there is such a one -/
def kp_is (x : Int32) (n : Nat) : Bool := kf_ix x n
theorem kp_is_iff {x : Int32} {n : Nat} (hn : n < 2 ^ 31) : kp_is x n = true ↔ ∃ j, j < n ∧ x = nI j := by
  unfold kp_is
  constructor
  · intro h; exact vp_in_of (kf_ix_in h) hn
  · rintro ⟨j, hj, rfl⟩; exact kf_ixN hj hn
theorem kp_has {σ : kf_St} {n j : Nat} {x : Int32} (hn : n < 2 ^ 31) (h : σ.1 7 j = nI n) : (if x < 0 then some ((0 : Int32), σ) else if σ.1 7 j ≤ x then some (0, σ) else some (1, σ)) = some (if kp_is x n then 1 else 0, σ) := by
  rw [h]
  rcases pk_ix x hn with c | c | ⟨i, hi, rfl⟩
  · rw [if_pos c, if_neg]
    intro e
    obtain ⟨i, -, rfl⟩ := (kp_is_iff hn).mp e
    obtain ⟨m, hm1, hm2⟩ := vp_in_of (kf_ix_in e) hn
    rw [hm2] at c
    exact nI_pos (by omega) c
  · have h0 : ¬ x < 0 := fun e => by
      have h1 := Int32.lt_iff_toInt_lt.mp e
      have h2 := Int32.le_iff_toInt_le.mp c
      rw [nI_toInt hn] at h2
      simp at h1
      omega
    rw [if_neg h0, if_pos c, if_neg]
    intro e
    obtain ⟨m, hm1, hm2⟩ := vp_in_of (kf_ix_in e) hn
    rw [hm2] at c
    exact nI_ge hm1 hn c
  · rw [if_neg (nI_pos (by omega)), if_neg (nI_ge hi hn), if_pos ((kp_is_iff hn).mpr ⟨i, hi, rfl⟩)]
theorem kp_hasDoor {T : kp_T} {σ : kf_St} (hT : kp_Tok T) (h : kp_CT T σ) (x : Int32) : f_X10_hasDoor 7 x σ = some (if kp_is x (kt_nd T) then 1 else 0, σ) := kp_has (j := 0) (by have := hT.1.1; omega) h.1.1
theorem kp_hasCaller {T : kp_T} {σ : kf_St} (hT : kp_Tok T) (h : kp_CT T σ) (x : Int32) : f_X10_hasCaller 7 x σ = some (if kp_is x (kt_nc T) then 1 else 0, σ) := kp_has (j := 1) (by have := hT.1.2.1; omega) h.1.2.1
theorem kp_hasRound {T : kp_T} {σ : kf_St} (hT : kp_Tok T) (h : kp_CT T σ) (x : Int32) : f_X10_hasRound 7 x σ = some (if kp_is x (kt_nr T) then 1 else 0, σ) := kp_has (j := 2) (by have := hT.1.2.2; omega) h.1.2.2
theorem kp_hasBoth {T : kp_T} {σ : kf_St} (hT : kp_Tok T) (h : kp_CT T σ) (x y : Int32) : f_X10_hasBoth 7 x y σ = some (if kp_is x (kt_nd T) = true ∧ kp_is y (kt_nc T) = true then 1 else 0, σ) := by
  unfold f_X10_hasBoth
  rw [kp_hasDoor hT h, Option.bind_some]
  by_cases a : kp_is x (kt_nd T) = true
  · rw [if_pos a, if_neg (show ¬ (1 : Int32) = 0 by decide)]
    dsimp only
    rw [kp_hasCaller hT h, Option.bind_some]
    by_cases b : kp_is y (kt_nc T) = true
    · rw [if_pos b, if_neg (show ¬ (1 : Int32) = 0 by decide), if_pos ⟨a, b⟩]
    · rw [if_neg b, if_pos rfl, if_neg (fun e => b e.2)]
  · rw [if_neg a, if_pos rfl, if_neg (fun e => a e.1)]
theorem kp_isI {x : Int32} {n : Nat} : kp_is x n = true ↔ 0 ≤ x.toInt ∧ x.toInt < n := by
  unfold kp_is kf_ix
  rw [decide_eq_true_iff]
  exact vp_in_iff
theorem kp_ltI {x y : Int32} : x < y ↔ x.toInt < y.toInt := Int32.lt_iff_toInt_lt
theorem kp_leI {x y : Int32} : x ≤ y ↔ x.toInt ≤ y.toInt := Int32.le_iff_toInt_le
theorem kp_pred {n : Nat} (hn : n < 2 ^ 30) : (nI n - 1).toInt = (n : Int) - 1 := by
  have := pk_sub_toInt (a := n) (b := 1) hn (by decide)
  exact this
theorem kf_ixA {a n m : Nat} (e : kf_ln a = m) (h : n < m) (hm : m < 2 ^ 31) : kf_ix (nI n) (kf_ln a) = true := by rw [e]; exact kf_ixN h hm
/-! the reference's -/
theorem kp_in {σ : kf_St} {n : Nat} {x : Int32} (hn : n < 2 ^ 30) : f_X12_in x 0 (nI n - 1) σ = some (if kp_is x n then 1 else 0, σ) := by
  unfold f_X12_in
  by_cases h1 : x < 0
  · have h2 := kp_ltI.mp h1
    rw [if_pos h1, if_neg (fun e => by have := (kp_isI.mp e).1; simp at h2; omega)]
  · have h2 : ¬ x.toInt < 0 := fun e => h1 (kp_ltI.mpr (by simpa using e))
    rw [if_neg h1]
    by_cases h3 : nI n - 1 < x
    · have h4 := kp_ltI.mp h3
      rw [kp_pred hn] at h4
      rw [if_pos h3, if_neg (fun e => by have := (kp_isI.mp e).2; omega)]
    · have h4 : ¬ (n : Int) - 1 < x.toInt := fun e => h3 (kp_ltI.mpr (by rw [kp_pred hn]; exact e))
      rw [if_neg h3, if_pos (kp_isI.mpr ⟨by omega, by omega⟩)]
theorem kp_lvix {T : kp_T} {lv : Nat} {σ : kf_St} (h : kp_MT T lv σ) {n : Nat} (hn : 2 ≤ n) (hn2 : n < 2 ^ 31) : kf_ix (σ.1 77 18) n = true := by
  rw [h.2.1]; exact kf_ixN (by have := h.1; omega) hn2
theorem kp_lvcl {T : kp_T} {lv : Nat} {σ : kf_St} (h : kp_MT T lv σ) : (σ.1 77 18).toNatClampNeg = lv := by
  rw [h.2.1]; exact nI_clamp (by have := h.1; omega)
theorem kp_isDoor {T : kp_T} {lv : Nat} {σ : kf_St} (hT : kp_Tok T) (h : kp_MT T lv σ) (x : Int32) : f_X12_isDoor 77 x σ = some (if kp_is x (kt_nd T) then 1 else 0, σ) := by
  unfold f_X12_isDoor
  show (if kf_ix (σ.1 77 18) (kf_ln 87) = true then (f_X12_in x 0 (σ.1 87 (σ.1 77 18).toNatClampNeg - 1) σ).bind _ else none) = _
  rw [if_pos (kp_lvix h (by decide) (by decide)), kp_lvcl h, h.2.2.1.1, kp_in (by have := hT.1.1; omega), Option.bind_some]
  by_cases a : kp_is x (kt_nd T) = true
  · rw [if_pos a]; rfl
  · rw [if_neg a]; rfl
theorem kp_isCaller {T : kp_T} {lv : Nat} {σ : kf_St} (hT : kp_Tok T) (h : kp_MT T lv σ) (x : Int32) : f_X12_isCaller 77 x σ = some (if kp_is x (kt_nc T) then 1 else 0, σ) := by
  unfold f_X12_isCaller
  show (if kf_ix (σ.1 77 18) (kf_ln 89) = true then (f_X12_in x 0 (σ.1 89 (σ.1 77 18).toNatClampNeg - 1) σ).bind _ else none) = _
  rw [if_pos (kp_lvix h (by decide) (by decide)), kp_lvcl h, h.2.2.1.2.1, kp_in (by have := hT.1.2.1; omega), Option.bind_some]
  by_cases a : kp_is x (kt_nc T) = true
  · rw [if_pos a]; rfl
  · rw [if_neg a]; rfl
theorem kp_isRound {T : kp_T} {lv : Nat} {σ : kf_St} (hT : kp_Tok T) (h : kp_MT T lv σ) (x : Int32) : f_X12_isRound 77 x σ = some (if kp_is x (kt_nr T) then 1 else 0, σ) := by
  unfold f_X12_isRound
  show (if kf_ix (σ.1 77 18) (kf_ln 91) = true then (f_X12_in x 0 (σ.1 91 (σ.1 77 18).toNatClampNeg - 1) σ).bind _ else none) = _
  rw [if_pos (kp_lvix h (by decide) (by decide)), kp_lvcl h, h.2.2.1.2.2, kp_in (by have := hT.1.2.2; omega), Option.bind_some]
  by_cases a : kp_is x (kt_nr T) = true
  · rw [if_pos a]; rfl
  · rw [if_neg a]; rfl
theorem kp_areBoth {T : kp_T} {lv : Nat} {σ : kf_St} (hT : kp_Tok T) (h : kp_MT T lv σ) (x y : Int32) : f_X12_areBoth 77 x y σ = some (if kp_is x (kt_nd T) = true ∧ kp_is y (kt_nc T) = true then 1 else 0, σ) := by
  unfold f_X12_areBoth
  rw [kp_isDoor hT h, Option.bind_some]
  by_cases a : kp_is x (kt_nd T) = true
  · rw [if_pos a, if_neg (show ¬ (1 : Int32) = 0 by decide)]
    dsimp only
    rw [kp_isCaller hT h, Option.bind_some]
    by_cases b : kp_is y (kt_nc T) = true
    · rw [if_pos b, if_neg (show ¬ (1 : Int32) = 0 by decide), if_pos ⟨a, b⟩]
    · rw [if_neg b, if_pos rfl, if_neg (fun e => b e.2)]
  · rw [if_neg a, if_pos rfl, if_neg (fun e => a e.1)]
/-! UNLIKE -/
theorem kp_n20 (lv c p : Nat) : (20 : Int32) * nI lv + 4 * nI c + nI p = nI (20 * lv + 4 * c + p) := by
  rw [show (20 : Int32) = nI 20 from rfl, show (4 : Int32) = nI 4 from rfl, pk_mul, pk_mul, nI_add, nI_add]
theorem kp_n24 (lv c p : Nat) : (24 : Int32) * nI lv + 4 * nI c + nI p = nI (24 * lv + 4 * c + p) := by
  rw [show (24 : Int32) = nI 24 from rfl, show (4 : Int32) = nI 4 from rfl, pk_mul, pk_mul, nI_add, nI_add]
theorem kp_facePart {T : kp_T} {lv : Nat} {σ : kf_St} (hT : kp_Tok T) (h : kp_MT T lv σ) {c p : Nat} (hc : c < kt_nc T) (hp : p < 4) : f_X12_facePart 77 (nI c) (nI p) σ = some (kt_lo T c p, σ) := by
  have h5 := hT.1.2.1
  have hl := h.1
  unfold f_X12_facePart
  show (if kf_ix (20 * σ.1 77 18 + 4 * nI c + nI p) (kf_ln 90) = true then some (σ.1 90 (20 * σ.1 77 18 + 4 * nI c + nI p).toNatClampNeg, σ) else none) = _
  rw [h.2.1, kp_n20, if_pos (kf_ixA (m := 40) rfl (by omega) (by decide)), nI_clamp (by omega), h.2.2.2.2.2.1 c hc p hp]
theorem kp_firstPart {T : kp_T} {lv : Nat} {σ : kf_St} (hT : kp_Tok T) (h : kp_MT T lv σ) {d p : Nat} (hd : d < kt_nd T) (hp : p < 4) : f_X12_firstPart 77 (nI d) (nI p) σ = some (kt_fi T d p, σ) := by
  have h5 := hT.1.1
  have hl := h.1
  unfold f_X12_firstPart
  show (if kf_ix (24 * σ.1 77 18 + 4 * nI d + nI p) (kf_ln 88) = true then some (σ.1 88 (24 * σ.1 77 18 + 4 * nI d + nI p).toNatClampNeg, σ) else none) = _
  rw [h.2.1, kp_n24, if_pos (kf_ixA (m := 48) rfl (by omega) (by decide)), nI_clamp (by omega), h.2.2.2.2.1 d hd p hp]
theorem kp_off (x y : Int32) (σ : kf_St) : f_X12_off x y σ = some (kp_of x y, σ) := by
  unfold f_X12_off kp_of
  by_cases h : y ≤ x
  · rw [if_pos h, if_pos h]
  · rw [if_neg h, if_neg h]
theorem kp_unM_loop {T : kp_T} {lv : Nat} {σ : kf_St} (hT : kp_Tok T) (h : kp_MT T lv σ) {d c : Nat} (hd : d < 6) (hc : c < kt_nc T) : ∀ (m p : Nat), p + m = 4 → ∀ fuel, m < fuel → f_X12_unlikeTo_5 fuel 77 (nI d) (nI c) (l_sum (fun p => kp_of (σ.1 112 (4 * d + p)) (kt_lo T c p)) p) (nI p) σ = some (kp_un (fun p => σ.1 112 (4 * d + p)) (kt_lo T c), σ) := by
  intro m
  induction m with
  | zero =>
    intro p hp fuel hf
    obtain ⟨n, rfl⟩ := kp_fuel (show 0 < fuel by omega)
    obtain rfl : p = 4 := by omega
    show f_X12_unlikeTo_5_s _ 77 (nI d) (nI c) _ (nI 4) σ = _
    unfold f_X12_unlikeTo_5_s
    rw [if_pos (by decide)]
    rfl
  | succ m ih =>
    intro p hp fuel hf
    obtain ⟨n, rfl⟩ := kp_fuel (show 0 < fuel by omega)
    show f_X12_unlikeTo_5_s _ 77 (nI d) (nI c) _ (nI p) σ = _
    unfold f_X12_unlikeTo_5_s
    rw [if_neg (show ¬ (4 : Int32) ≤ nI p from nI_ge (a := p) (b := 4) (by omega) (by omega)), kp_n4, if_pos (kf_ixA (m := 70) rfl (by omega) (by decide)), kp_facePart hT h hc (by omega), Option.bind_some, nI_clamp (by omega), kp_off, Option.bind_some]
    simp only [kf_lt]
    rw [nI_1]
    exact ih (p + 1) (by omega) n (by omega)
theorem kp_unM {T : kp_T} {lv : Nat} {σ : kf_St} (hT : kp_Tok T) (h : kp_MT T lv σ) {d c : Nat} (hd : d < 6) (hc : c < kt_nc T) : f_X12_unlikeTo 77 (nI d) (nI c) σ = some (kp_un (fun p => σ.1 112 (4 * d + p)) (kt_lo T c), σ) := by
  unfold f_X12_unlikeTo
  exact kp_unM_loop hT h hd hc 4 0 rfl kf_F (kf_F_gt (by decide))
theorem kp_unC {T : kp_T} {σ : kf_St} (hT : kp_Tok T) (h : kp_CT T σ) {a c : Nat} (ha : kf_ln a = 4) (hs : ∀ p, p < 4 → kp_sm (σ.1 a p)) (hc : c < kt_nc T) : f_X10_unlikeTo 7 a (nI c) σ = some (kp_un (σ.1 a) (kt_lo T c), σ) := by
  have h5 := hT.1.2.1
  unfold f_X10_unlikeTo
  have hd := kp_diff σ (a := a) (b := 11) (i := 0) (j := c) (by omega) (by show _ ≤ 20; omega) (by omega) (by decide) (fun p hp => by rw [Nat.mul_zero, Nat.zero_add]; exact hs p hp) (fun p hp => by rw [h.2.2.2.1 c hc p hp]; exact hT.2.2.1 c hc p hp)
  show (f_X10_difference a (nI 0) 11 (nI c) σ).bind _ = _
  rw [hd, Option.bind_some]
  refine congrArg some (Prod.ext ?_ rfl)
  show kp_un _ _ = kp_un _ _
  unfold kp_un
  refine kp_sum_congr 4 (fun p hp => ?_)
  show kp_of (σ.1 a (4 * 0 + p)) (σ.1 11 (4 * c + p)) = _
  rw [h.2.2.2.1 c hc p hp, Nat.mul_zero, Nat.zero_add]
