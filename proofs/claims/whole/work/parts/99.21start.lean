/-! ===== pure: the start ===== -/
theorem kx_z7 : ∀ k, k < 6 → kf_s0.1 7 k = if k = 4 then 40 else 0 := by decide +kernel
theorem kx_z16 : kf_s0.1 16 0 = nI 2 ∧ kf_s0.1 17 0 = nI 8 ∧ kf_s0.1 17 1 = nI 7 := by decide +kernel
theorem kx_z19 : kf_s0.1 19 0 = nI 2 ∧ kf_s0.1 20 0 = nI 0 ∧ kf_s0.1 20 1 = nI 7 := by decide +kernel
theorem kx_z22 : kf_s0.1 22 0 = nI 2 ∧ kf_s0.1 23 0 = nI 8 ∧ kf_s0.1 23 1 = nI 7 := by decide +kernel
theorem kx_z44 : kf_s0.1 44 2 = 0 ∧ kf_s0.1 44 3 = 0 ∧ kf_s0.1 60 0 = 0 ∧ kf_s0.1 60 1 = 0 ∧ kf_s0.1 60 2 = 0 ∧ kf_s0.1 72 0 = 0 ∧ kf_s0.1 1 0 = 0 ∧ kf_s0.1 43 1 = -1 := by decide +kernel
theorem kx_z58 : ∀ c, c < 5 → kf_s0.1 58 c = 0 := by decide +kernel
theorem kx_z3 : ∀ i, i < 21 → kf_s0.2 3 i = kf_codes i := by decide +kernel
theorem kx_m77 : kf_s0.1 77 2 = 0 ∧ kf_s0.1 77 17 = -1 ∧ kf_s0.1 77 18 = nI 0 ∧ kf_s0.1 77 56 = 0 ∧ kf_s0.1 77 60 = 0 := by decide +kernel
theorem kx_m87 : kf_s0.1 87 0 = 0 ∧ kf_s0.1 89 0 = 0 ∧ kf_s0.1 91 0 = 0 ∧ kf_s0.1 96 0 = 0 ∧ kf_s0.1 97 0 = 40 ∧ kf_s0.1 98 0 = 0 := by decide +kernel
theorem kx_m99 : ∀ k, k < 3 → kf_s0.1 99 k = 0 ∧ kf_s0.1 100 k = 0 := by decide +kernel
theorem kx_m111 : ∀ j, j < 70 → kf_s0.1 111 j = 0 := by decide +kernel
theorem kx_m120 : ∀ s, s < 3 → kf_s0.1 120 s = 0 := by decide +kernel
theorem kx_m84 : ∀ i, i < 21 → kf_s0.2 84 i = kf_codes i := by decide +kernel
def kx_Ad : kp_A := (kx_Tn kx_D0, kx_S0 0 0 (fun _ _ => 0), (0, fun _ => kx_S0 0 0 (fun _ _ => 0)), fun _ => none, (0, fun _ => 0, fun _ => 0, fun _ => 0), (0, fun _ => 0), 0)
def kx_A0 : kp_A := kx_A2 kx_Ad kx_D0
theorem kx_A0ok : kp_Aok kx_A0 0 := kx_A2ok kx_Di0 (kx_Di0.2.2 rfl).2
theorem kx_CW0 {a d : Nat} {σ : kf_St} (h0 : σ.1 a 0 = nI 2) (h1 : σ.1 (a + 1) 0 = nI (8 * d + 0)) (h2 : σ.1 (a + 1) 1 = nI 7) : kx_CW a (kx_ow d none) σ := ⟨by show 2 ≤ 401; decide, h0, h1, h2, True.intro⟩
theorem kx_C0 : kp_Cr kx_A0 kf_s0 := by
  refine ⟨⟨⟨kx_z7 0 (by decide), kx_z7 1 (by decide), kx_z7 2 (by decide)⟩, ⟨kx_z7 3 (by decide), kx_z7 4 (by decide), kx_z7 5 (by decide)⟩, fun d hd => absurd hd (Nat.not_lt_zero d), fun d hd => absurd hd (Nat.not_lt_zero d), fun d hd => absurd hd (Nat.not_lt_zero d), ?_, ?_, ?_⟩, ⟨fun d hd => absurd hd (Nat.not_lt_zero d), kx_z58, kx_z44.1, kx_z44.2.1⟩, ⟨Nat.zero_le _, kx_z44.2.2.1, 0, by decide, kx_z44.2.2.2.2.1, fun i hi => absurd hi (Nat.not_lt_zero i)⟩, ⟨0, by decide, kx_z44.2.2.2.1, fun s hs => Or.inl ⟨rfl, ?_⟩⟩, ⟨kx_z44.2.2.2.2.2.1, fun i hi => absurd hi (Nat.not_lt_zero i)⟩, ⟨kx_z44.2.2.2.2.2.2.1, fun i hi => absurd hi (Nat.not_lt_zero i)⟩, kx_z44.2.2.2.2.2.2.2, kx_z3⟩
  · exact kp_LC.ofw (d := 1) (o := none) kx_la16 (by decide) (fun w h => (by cases h)) (kx_CW0 kx_z16.1 kx_z16.2.1 kx_z16.2.2)
  · exact kp_LC.ofw (d := 0) (o := none) kx_la19 (by decide) (fun w h => (by cases h)) (kx_CW0 kx_z19.1 kx_z19.2.1 kx_z19.2.2)
  · exact kp_LC.ofw (d := 1) (o := none) kx_la22 (by decide) (fun w h => (by cases h)) (kx_CW0 kx_z22.1 kx_z22.2.1 kx_z22.2.2)
  · have : s = 0 ∨ s = 1 ∨ s = 2 := by omega
    rcases this with rfl | rfl | rfl <;> rfl
theorem kx_M0 : kp_Mr kx_A0 kf_s0 := by
  have mo : ∀ k, k < 3 → kx_MO k none 0 0 0 kf_s0 := fun k hk => by
    have := kx_m99 k hk
    show kf_s0.1 99 (3 * 0 + k) = 0 ∧ kf_s0.1 100 (3 * 0 + k) = 0
    rw [show 3 * 0 + k = k by omega]
    exact this
  refine ⟨⟨0, by decide, kx_m77.2.2.1, ⟨kx_m87.1, kx_m87.2.1, kx_m87.2.2.1⟩, ⟨kx_m87.2.2.2.1, kx_m87.2.2.2.2.1, kx_m87.2.2.2.2.2⟩, fun d hd => absurd hd (Nat.not_lt_zero d), fun d hd => absurd hd (Nat.not_lt_zero d), fun d hd => absurd hd (Nat.not_lt_zero d), kM_law (d := 1) (by decide) (by decide) (Nat.zero_le _) (Nat.zero_le _) kx_m77.2.2.1 (fun w h => (by cases h)) (mo 0 (by decide)), kM_law (d := 0) (by decide) (by decide) (Nat.zero_le _) (Nat.zero_le _) kx_m77.2.2.1 (fun w h => (by cases h)) (mo 1 (by decide)), kM_law (d := 1) (by decide) (by decide) (Nat.zero_le _) (Nat.zero_le _) kx_m77.2.2.1 (fun w h => (by cases h)) (mo 2 (by decide))⟩, ?_, ⟨Nat.zero_le _, kx_m77.2.2.2.1, fun i hi => absurd hi (Nat.not_lt_zero i)⟩, fun s hs => Or.inl ⟨rfl, kx_m120 s hs⟩, ⟨kx_m77.2.2.2.2, fun i hi => absurd hi (Nat.not_lt_zero i)⟩, ⟨kx_m77.1, fun i hi => absurd hi (Nat.not_lt_zero i)⟩, kx_m77.2.1, kx_m84⟩
  refine kx_fS0 (fj := fun _ => 0) (Nat.zero_le _) (Nat.zero_le _) (fun j hj => ?_) (fun d hd => absurd hd (Nat.not_lt_zero d))
  rw [kx_m111 j hj]
  unfold kx_r0
  rw [if_neg (show ¬ j < 4 * kd_nd kx_D0 from Nat.not_lt_zero j), if_neg (show ¬ (54 ≤ j ∧ j < 54 + kd_nr kx_D0) from fun q => by have : j < 54 := q.2; omega)]
