/-! ===== pure: a street begins (second side) ===== -/
def kx_r0 (nd nr : Nat) (fi : Nat → Int32) (j : Nat) : Int32 := if j < 4 * nd then fi j else if 54 ≤ j ∧ j < 54 + nr then 1 else 0
theorem kM_beg {lv nd nr : Nat} {σ : kf_St} (hl : lv < 2) (h18 : σ.1 77 18 = nI lv) (hd : σ.1 87 lv = nI nd) (hr : σ.1 91 lv = nI nr) (hnd : nd ≤ 6) (hnr : nr ≤ 10) : ∃ τ, f_X12_begins 77 σ = some τ ∧ kx_fr (fun a b => a = 112 ∨ (a = 77 ∧ (b = 53 ∨ b = 54))) kx_n0 σ τ ∧ ∀ j, j < 70 → τ.1 112 j = kx_r0 nd nr (fun j => σ.1 88 (24 * lv + j)) j := by
  have lc : (nI lv).toNatClampNeg = lv := nI_clamp (by omega)
  have i2 : kf_ix (nI lv) 2 = true := kf_ixN hl (by decide)
  have m66 : ∀ τ0, kx_fr (fun a b => a = 112) kx_n0 σ τ0 → (∀ j, j < 70 → τ0.1 112 j = if j < 4 * nd then σ.1 88 (24 * lv + j) else 0) → ∃ τ, f_X12_begins_66 kf_F 77 0 τ0 = some τ ∧ kx_fr (fun a b => a = 112 ∨ (a = 77 ∧ (b = 53 ∨ b = 54))) kx_n0 σ τ ∧ ∀ j, j < 70 → τ.1 112 j = kx_r0 nd nr (fun j => σ.1 88 (24 * lv + j)) j := by
    intro τ0 c0 h0
    have main := kp_run (n := nr) (fun j f => ∀ τ, kx_fr (fun a b => a = 112) kx_n0 σ τ → (∀ k, k < 70 → τ.1 112 k = kx_r0 nd j (fun j => σ.1 88 (24 * lv + j)) k) → ∃ τ', f_X12_begins_66 f 77 (nI j) τ = some τ' ∧ kx_fr (fun a b => a = 112 ∨ (a = 77 ∧ (b = 53 ∨ b = 54))) kx_n0 σ τ' ∧ ∀ j, j < 70 → τ'.1 112 j = kx_r0 nd nr (fun j => σ.1 88 (24 * lv + j)) j) (by omega) (fun f τ c hk => ?_) (fun j hj f ih τ c hk => ?_)
    · refine main τ0 c0 (fun k hk => ?_)
      rw [h0 k hk]
      unfold kx_r0
      by_cases e : k < 4 * nd
      · rw [if_pos e, if_pos e]
      · rw [if_neg e, if_neg e, if_neg (by omega)]
    · refine ⟨kf_wi (kf_wi τ 77 53 (τ.1 98 lv)) 77 54 0, ?_, ((c.mono (fun _ _ q => Or.inl q) (fun _ _ q => q)).wi (Or.inr ⟨rfl, by omega⟩)).wi (Or.inr ⟨rfl, by omega⟩), fun k hk2 => ?_⟩
      · show f_X12_begins_66_s _ 77 (nI nr) τ = _
        unfold f_X12_begins_66_s
        simp only [kz_lt]
        rw [c.1 77 18 (by omega), h18, kr77_27, kl91, if_pos i2, lc, c.1 91 lv (by omega), hr, if_pos (nI_le (Nat.le_refl _) (by omega)), kr77_34, kl98, if_pos i2]
      · rw [kp_wi_row (by decide), kp_wi_row (by decide)]; exact hk k hk2
    · obtain ⟨τ', r1, r2⟩ := ih (kf_wi τ 112 (54 + j) 1) (c.wi (P := fun a b => a = 112) rfl) (fun k hk2 => by
        unfold kx_r0
        by_cases e : k = 54 + j
        · rw [e, kp_wi_same, if_neg (by omega), if_pos (by omega)]
        · rw [kp_wi_ne (by omega), hk k hk2]
          unfold kx_r0
          by_cases e1 : k < 4 * nd
          · rw [if_pos e1, if_pos e1]
          · rw [if_neg e1, if_neg e1]
            by_cases e2 : 54 ≤ k ∧ k < 54 + j
            · rw [if_pos e2, if_pos (by omega)]
            · rw [if_neg e2, if_neg (by omega)])
      refine ⟨τ', ?_, r2⟩
      show f_X12_begins_66_s _ 77 (nI j) τ = _
      unfold f_X12_begins_66_s
      simp only [kz_lt]
      rw [c.1 77 18 (by omega), h18, kr77_27, kl91, if_pos i2, lc, c.1 91 lv (by omega), hr, if_neg (nI_ge hj (by omega)), show (54 : Int32) + nI j = nI (54 + j) from nI_add 54 j, kr77_52, kl112, if_pos (kf_ixN (by omega) (by decide)), nI_clamp (by omega), nI_1]
      exact r1
  have m23 : ∀ τ0, kx_fr (fun a b => a = 112) kx_n0 σ τ0 → (∀ j, j < 70 → τ0.1 112 j = 0) → ∃ τ, f_X12_begins_23 kf_F 77 0 τ0 = some τ ∧ kx_fr (fun a b => a = 112 ∨ (a = 77 ∧ (b = 53 ∨ b = 54))) kx_n0 σ τ ∧ ∀ j, j < 70 → τ.1 112 j = kx_r0 nd nr (fun j => σ.1 88 (24 * lv + j)) j := by
    intro τ0 c0 h0
    have main := kp_run (n := 4 * nd) (fun j f => ∀ τ, kx_fr (fun a b => a = 112) kx_n0 σ τ → (∀ k, k < 70 → τ.1 112 k = if k < j then σ.1 88 (24 * lv + k) else 0) → ∃ τ', f_X12_begins_23 f 77 (nI j) τ = some τ' ∧ kx_fr (fun a b => a = 112 ∨ (a = 77 ∧ (b = 53 ∨ b = 54))) kx_n0 σ τ' ∧ ∀ j, j < 70 → τ'.1 112 j = kx_r0 nd nr (fun j => σ.1 88 (24 * lv + j)) j) (by omega) (fun f τ c hk => ?_) (fun j hj f ih τ c hk => ?_)
    · exact main τ0 c0 (fun k hk => by rw [if_neg (Nat.not_lt_zero k)]; exact h0 k hk)
    · obtain ⟨τ', r1, r2⟩ := m66 τ c hk
      refine ⟨τ', ?_, r2⟩
      show f_X12_begins_23_s _ 77 (nI (4 * nd)) τ = _
      unfold f_X12_begins_23_s
      rw [c.1 77 18 (by omega), h18, kr77_23, kl87, if_pos i2, lc, c.1 87 lv (by omega), hd, show (4 : Int32) * nI nd = nI (4 * nd) from pk_mul 4 nd, if_pos (nI_le (Nat.le_refl _) (by omega)), r1]
    · obtain ⟨τ', r1, r2⟩ := ih (kf_wi τ 112 j (σ.1 88 (24 * lv + j))) (c.wi (P := fun a b => a = 112) rfl) (fun k hk2 => by
        by_cases e : k = j
        · rw [e, kp_wi_same, if_pos (by omega)]
        · rw [kp_wi_ne (by omega), hk k hk2]
          by_cases e2 : k < j
          · rw [if_pos e2, if_pos (by omega)]
          · rw [if_neg e2, if_neg (by omega)])
      refine ⟨τ', ?_, r2⟩
      show f_X12_begins_23_s _ 77 (nI j) τ = _
      unfold f_X12_begins_23_s
      simp only [kz_lt]
      rw [c.1 77 18 (by omega), h18, kr77_23, kl87, if_pos i2, lc, c.1 87 lv (by omega), hd, show (4 : Int32) * nI nd = nI (4 * nd) from pk_mul 4 nd, if_neg (nI_ge hj (by omega)), show (24 : Int32) * nI lv + nI j = nI (24 * lv + j) by rw [show (24 : Int32) = nI 24 from rfl, pk_mul, nI_add], kr77_24, kl88, if_pos (kf_ixN (by omega) (by decide)), kr77_52, kl112, if_pos (kf_ixN (by omega) (by decide)), nI_clamp (by omega), nI_clamp (by omega), c.1 88 _ (by omega), nI_1]
      exact r1
  unfold f_X12_begins
  have main := kp_run (n := 70) (fun j f => ∀ τ, kx_fr (fun a b => a = 112) kx_n0 σ τ → (∀ k, k < j → τ.1 112 k = 0) → ∃ τ', f_X12_begins_2 f 77 (nI j) τ = some τ' ∧ kx_fr (fun a b => a = 112 ∨ (a = 77 ∧ (b = 53 ∨ b = 54))) kx_n0 σ τ' ∧ ∀ j, j < 70 → τ'.1 112 j = kx_r0 nd nr (fun j => σ.1 88 (24 * lv + j)) j) (by decide) (fun f τ c hk => ?_) (fun j hj f ih τ c hk => ?_)
  · exact main σ kx_fr.rf (fun k hk => absurd hk (Nat.not_lt_zero k))
  · obtain ⟨τ', r1, r2⟩ := m23 τ c hk
    refine ⟨τ', ?_, r2⟩
    show f_X12_begins_2_s _ 77 (nI 70) τ = _
    unfold f_X12_begins_2_s
    rw [if_pos (by decide), r1]
  · obtain ⟨τ', r1, r2⟩ := ih (kf_wi τ 112 j 0) (c.wi (P := fun a b => a = 112) rfl) (fun k hk2 => by
      by_cases e : k = j
      · rw [e, kp_wi_same]
      · rw [kp_wi_ne (by omega)]; exact hk k (by omega))
    refine ⟨τ', ?_, r2⟩
    show f_X12_begins_2_s _ 77 (nI j) τ = _
    unfold f_X12_begins_2_s
    simp only [kz_lt]
    rw [if_neg (show ¬ (70 : Int32) ≤ nI j from nI_ge (b := 70) (by omega) (by decide)), kr77_52, kl112, if_pos (kf_ixN (by omega) (by decide)), nI_clamp (by omega), nI_1]
    exact r1
/-- the street at its beginning -/
def kx_S0 (nd nr : Nat) (fi : Nat → Nat → Int32) : kp_S := (fun d => if d < nd then (kd_cut (fi d), 0, 0, 0, 0, 0) else kd_0, fun _ => 0, 2 ^ nr - 1, 0)
theorem kx_bt0 : ∀ nr, nr ≤ 10 → ∀ r, r < 10 → (if r < nr then (1 : Int32) else 0) = nI (kp_bt (2 ^ nr - 1) r) := by decide +kernel
theorem kx_cut_c {f g : Nat → Int32} (h : ∀ p, p < 4 → f p = g p) : kd_cut f = kd_cut g := by
  funext p
  unfold kd_cut
  by_cases c : p < 4
  · rw [if_pos c, if_pos c, h p c]
  · rw [if_neg c, if_neg c]
theorem kx_fS0 {nd nr : Nat} {fi : Nat → Nat → Int32} {fj ρ : Nat → Int32} (hnd : nd ≤ 6) (hnr : nr ≤ 10) (h : ∀ j, j < 70 → ρ j = kx_r0 nd nr fj j) (hf : ∀ d, d < nd → ∀ p, p < 4 → fj (4 * d + p) = fi d p) : kp_fS ρ (kx_S0 nd nr fi) := by
  have z : ∀ j, 24 ≤ j → j < 70 → ¬ (54 ≤ j ∧ j < 54 + nr) → ρ j = 0 := fun j h1 h2 h3 => by
    rw [h j h2]
    unfold kx_r0
    rw [if_neg (by omega), if_neg h3]
  refine ⟨fun d hd => ?_, fun c hc => z _ (by omega) (by omega) (by omega), fun r hr => ?_, z 69 (by omega) (by omega) (by omega)⟩
  · show kp_fD ρ d = if d < nd then (kd_cut (fi d), 0, 0, 0, 0, 0) else kd_0
    unfold kp_fD
    rw [z (24 + d) (by omega) (by omega) (by omega), z (30 + d) (by omega) (by omega) (by omega), z (36 + d) (by omega) (by omega) (by omega), z (42 + d) (by omega) (by omega) (by omega), z (48 + d) (by omega) (by omega) (by omega)]
    by_cases c : d < nd
    · rw [if_pos c, kx_cut_c (g := fi d) (fun p hp => by
        rw [h _ (by omega)]
        unfold kx_r0
        rw [if_pos (by omega)]
        exact hf d c p hp)]
    · rw [if_neg c]
      have e : kd_cut (fun p => ρ (4 * d + p)) = fun _ => 0 := by
        funext p
        unfold kd_cut
        by_cases q : p < 4
        · rw [if_pos q]
          show ρ (4 * d + p) = 0
          rw [h _ (by omega)]
          unfold kx_r0
          rw [if_neg (by omega), if_neg (by omega)]
        · rw [if_neg q]
      rw [e]
      rfl
  · show ρ (54 + r) = nI (kp_bt (2 ^ nr - 1) r)
    rw [h _ (by omega), ← kx_bt0 nr hnr r hr]
    unfold kx_r0
    rw [if_neg (by omega)]
    by_cases c : r < nr
    · rw [if_pos c, if_pos (by omega)]
    · rw [if_neg c, if_neg (by omega)]
theorem kx_Gok0 {T : kp_T} {k : Nat} (hT : kp_Tok T) : kp_Gok T k (kx_S0 (kt_nd T) (kt_nr T) (kt_fi T)) := by
  refine ⟨fun d hd => ?_, fun d h1 h2 => if_neg (by omega), ?_, by show 0 ≤ _; omega⟩
  · show kp_Dok (if d < kt_nd T then (kd_cut (kt_fi T d), 0, 0, 0, 0, 0) else kd_0)
    rw [if_pos hd]
    refine ⟨fun p hp => ?_, ⟨0, by decide, rfl⟩, ⟨0, by decide, rfl⟩, Or.inl rfl⟩
    show kp_sm (kd_cut (kt_fi T d) p)
    unfold kd_cut
    rw [if_pos hp]
    exact hT.2.1 d hd p hp
  · show 2 ^ kt_nr T - 1 < 2 ^ kt_nr T
    have : 0 < 2 ^ kt_nr T := Nat.pow_pos (by decide)
    omega
