/-! ===== pure: a town is taken over, a street begins (first side) ===== -/
theorem kx_fr_ci (σ : kf_St) (a b sp dp n : Nat) : kx_fr (fun k _ => k = b) kx_n0 σ (kf_ci σ a b sp dp n) := ⟨fun k j h => by rw [kp_ci_at, if_neg h], fun _ _ _ => rfl⟩
theorem kx_fr_cl (σ : kf_St) (a b sp dp n : Nat) : kx_fr kx_n0 (fun k _ => k = b) σ (kf_cl2 σ a b sp dp n) := ⟨fun _ _ _ => rfl, fun k j h => if_neg h⟩
theorem kx_cok {n l m : Nat} (h1 : n ≤ l) (h2 : n ≤ m) (hn : n < 2 ^ 31) : kf_cok 0 0 (nI n) l m = true := by
  unfold kf_cok
  refine decide_eq_true ⟨by decide, by decide, nI_pos hn, ?_, ?_⟩
  · rw [nI_clamp hn, show Int32.toNatClampNeg 0 = 0 from rfl]; omega
  · rw [nI_clamp hn, show Int32.toNatClampNeg 0 = 0 from rfl]; omega
theorem kC_lbec {a b : Nat} {w : kx_w} {σ : kf_St} (ra : kf_rf a 1 = a + 1) (rb : kf_rf b 1 = b + 1) (la : kf_ln (a + 1) = 401) (lb : kf_ln (b + 1) = 401) (hab : b + 2 < a) (h : kx_CW a w σ) : ∃ τ, f_X2_become b a σ = some τ ∧ kx_CW b w τ ∧ kx_fr (fun r _ => r = b ∨ r = b + 1) kx_n0 σ τ := by
  obtain ⟨h1, h2, h3⟩ := h
  have c0 : kx_fr (fun r _ => r = b ∨ r = b + 1) kx_n0 σ (kf_wi σ b 0 (nI (kx_cs w).length)) := kx_fr.rf.wi (Or.inl rfl)
  have c1 := (kx_fr_ci (kf_wi σ b 0 (nI (kx_cs w).length)) (a + 1) (b + 1) 0 0 (kx_cs w).length).mono (P' := fun r _ => r = b ∨ r = b + 1) (Q' := kx_n0) (fun _ _ q => Or.inr q) (fun _ _ q => q)
  refine ⟨kf_ci (kf_wi σ b 0 (nI (kx_cs w).length)) (a + 1) (b + 1) 0 0 (kx_cs w).length, ?_, ⟨h1, ?_, ?_⟩, c0.tr c1⟩
  · unfold f_X2_become
    simp only [kz_lt]
    rw [h2, kp_wi_same, ra, rb, la, lb, if_pos (kx_cok h1 h1 (by omega)), nI_clamp (by omega)]
    rfl
  · rw [kp_ci_row (by omega), kp_wi_same]
  · refine kx_ca_c _ (fun i _ hi => ?_) h3
    rw [kz_ci_in (Nat.zero_le _) (by omega), kp_wi_row (by omega), Nat.sub_zero, Nat.zero_add]
theorem kC_bec {D : kx_D} {σ : kf_St} (hb : kx_Db D) (d1 : kx_D1 D σ) (d3 : kx_D3 D σ) (d4 : kx_D4 D σ) (d5 : kx_D5 D σ) (d6 : kx_D6 D σ) : ∃ τ, f_X10_become 7 25 σ = some τ ∧ kx_fr (fun a _ => a = 7 ∨ (10 ≤ a ∧ a ≤ 23)) (fun a _ => a = 8 ∨ a = 9) σ τ ∧ (τ.1 7 0 = nI (kd_nd D) ∧ τ.1 7 1 = nI (kd_nc D) ∧ τ.1 7 2 = nI (kd_nr D)) ∧ (τ.1 7 3 = nI (kd_wi D) ∧ τ.1 7 4 = nI (kd_ne D) ∧ τ.1 7 5 = nI (kd_se D)) ∧ (∀ d, d < kd_nd D → ∀ p, p < 4 → τ.1 10 (4 * d + p) = kd_fi D d p) ∧ (∀ c, c < kd_nc D → ∀ p, p < 4 → τ.1 11 (4 * c + p) = kd_lo D c p) ∧ (∀ r, r < kd_nr D → τ.1 12 r = nI (kd_rc D r) ∧ τ.1 13 r = nI (kd_rd D r) ∧ τ.1 14 r = nI (kd_ev D r) ∧ τ.1 15 r = nI (kd_fr D r)) ∧ kx_CW 16 (kx_ow 1 (kd_lg D)) τ ∧ kx_CW 19 (kx_ow 0 (kd_lw D)) τ ∧ kx_CW 22 (kx_ow 1 (kd_lp D)) τ := by
  obtain ⟨b1, b2, b3⟩ := hb
  have c6 : kx_fr (fun a _ => a = 7) kx_n0 σ (kf_wi (kf_wi (kf_wi (kf_wi (kf_wi (kf_wi σ 7 0 (nI (kd_nd D))) 7 1 (nI (kd_nc D))) 7 2 (nI (kd_nr D))) 7 3 (nI (kd_wi D))) 7 4 (nI (kd_ne D))) 7 5 (nI (kd_se D))) := by
    have w7 : ∀ {τ : kf_St} {j : Nat} {v : Int32}, kx_fr (fun a _ => a = 7) kx_n0 σ τ → kx_fr (fun a _ => a = 7) kx_n0 σ (kf_wi τ 7 j v) := fun c => c.wi (P := fun a _ => a = 7) rfl
    exact w7 (w7 (w7 (w7 (w7 (w7 kx_fr.rf)))))
  have v : ∀ k w, (k = 0 ∧ w = nI (kd_nd D) ∨ k = 1 ∧ w = nI (kd_nc D) ∨ k = 2 ∧ w = nI (kd_nr D) ∨ k = 3 ∧ w = nI (kd_wi D) ∨ k = 4 ∧ w = nI (kd_ne D) ∨ k = 5 ∧ w = nI (kd_se D)) → (kf_wi (kf_wi (kf_wi (kf_wi (kf_wi (kf_wi σ 7 0 (nI (kd_nd D))) 7 1 (nI (kd_nc D))) 7 2 (nI (kd_nr D))) 7 3 (nI (kd_wi D))) 7 4 (nI (kd_ne D))) 7 5 (nI (kd_se D))).1 7 k = w := by
    intro k w h
    rcases h with ⟨rfl, rfl⟩ | ⟨rfl, rfl⟩ | ⟨rfl, rfl⟩ | ⟨rfl, rfl⟩ | ⟨rfl, rfl⟩ | ⟨rfl, rfl⟩ <;> simp only [kp_wi_at] <;> rfl
  generalize hρ : kf_wi (kf_wi (kf_wi (kf_wi (kf_wi (kf_wi σ 7 0 (nI (kd_nd D))) 7 1 (nI (kd_nc D))) 7 2 (nI (kd_nr D))) 7 3 (nI (kd_wi D))) 7 4 (nI (kd_ne D))) 7 5 (nI (kd_se D)) = ρ2 at c6 v
  have q3 := kx_fr_ci ρ2 28 10 0 0 24
  have n3 : ∀ j, j < 24 → (kf_ci ρ2 28 10 0 0 24).1 10 j = ρ2.1 28 j := fun j hj => by rw [kz_ci_in (Nat.zero_le _) (by omega), Nat.sub_zero, Nat.zero_add]
  generalize h3 : kf_ci ρ2 28 10 0 0 24 = ρ3 at q3 n3
  have q4 := kx_fr_ci ρ3 29 11 0 0 20
  have n4 : ∀ j, j < 20 → (kf_ci ρ3 29 11 0 0 20).1 11 j = ρ3.1 29 j := fun j hj => by rw [kz_ci_in (Nat.zero_le _) (by omega), Nat.sub_zero, Nat.zero_add]
  generalize h4 : kf_ci ρ3 29 11 0 0 20 = ρ4 at q4 n4
  have q5 := kx_fr_ci ρ4 30 12 0 0 10
  have n5 : ∀ j, j < 10 → (kf_ci ρ4 30 12 0 0 10).1 12 j = ρ4.1 30 j := fun j hj => by rw [kz_ci_in (Nat.zero_le _) (by omega), Nat.sub_zero, Nat.zero_add]
  generalize h5 : kf_ci ρ4 30 12 0 0 10 = ρ5 at q5 n5
  have q6 := kx_fr_ci ρ5 31 13 0 0 10
  have n6 : ∀ j, j < 10 → (kf_ci ρ5 31 13 0 0 10).1 13 j = ρ5.1 31 j := fun j hj => by rw [kz_ci_in (Nat.zero_le _) (by omega), Nat.sub_zero, Nat.zero_add]
  generalize h6 : kf_ci ρ5 31 13 0 0 10 = ρ6 at q6 n6
  have q7 := kx_fr_ci ρ6 32 14 0 0 10
  have n7 : ∀ j, j < 10 → (kf_ci ρ6 32 14 0 0 10).1 14 j = ρ6.1 32 j := fun j hj => by rw [kz_ci_in (Nat.zero_le _) (by omega), Nat.sub_zero, Nat.zero_add]
  generalize h7 : kf_ci ρ6 32 14 0 0 10 = ρ7 at q7 n7
  have q8 := kx_fr_ci ρ7 33 15 0 0 10
  have n8 : ∀ j, j < 10 → (kf_ci ρ7 33 15 0 0 10).1 15 j = ρ7.1 33 j := fun j hj => by rw [kz_ci_in (Nat.zero_le _) (by omega), Nat.sub_zero, Nat.zero_add]
  generalize h8 : kf_ci ρ7 33 15 0 0 10 = ρ8 at q8 n8
  have P : ∀ {α β : kf_St} {k : Nat}, (10 ≤ k ∧ k ≤ 23) → kx_fr (fun a _ => a = k) kx_n0 α β → kx_fr (fun a _ => a = 7 ∨ (10 ≤ a ∧ a ≤ 23)) (fun a _ => a = 8 ∨ a = 9) α β := fun hk q => q.mono (fun a b z => by omega) (fun _ _ z => z.elim)
  have G0 : kx_fr (fun a _ => a = 7 ∨ (10 ≤ a ∧ a ≤ 23)) (fun a _ => a = 8 ∨ a = 9) σ ρ2 := c6.mono (fun a b z => Or.inl z) (fun _ _ z => z.elim)
  have G3 := G0.tr (P (by decide) q3)
  have G4 := G3.tr (P (by decide) q4)
  have G5 := G4.tr (P (by decide) q5)
  have G6 := G5.tr (P (by decide) q6)
  have G7 := G6.tr (P (by decide) q7)
  have G8 := G7.tr (P (by decide) q8)
  obtain ⟨τ1, t1, t2, t3⟩ := kC_lbec (a := 34) (b := 16) kr34_1 kr16_1 kl35 kl17 (by decide) (d6.1.fr G8 (fun b => by omega) (fun b => by omega))
  obtain ⟨τ2, u1, u2, u3⟩ := kC_lbec (a := 37) (b := 19) kr37_1 kr19_1 kl38 kl20 (by decide) ((d6.2.1.fr G8 (fun b => by omega) (fun b => by omega)).fr t3 (fun b => by omega) (fun b => by omega))
  obtain ⟨τ3, w1, w2, w3⟩ := kC_lbec (a := 40) (b := 22) kr40_1 kr22_1 kl41 kl23 (by decide) (((d6.2.2.fr G8 (fun b => by omega) (fun b => by omega)).fr t3 (fun b => by omega) (fun b => by omega)).fr u3 (fun b => by omega) (fun b => by omega))
  have L : ∀ a b, a < 16 → τ3.1 a b = ρ8.1 a b := fun a b ha => (w3.1 a b (by omega)).trans ((u3.1 a b (by omega)).trans (t3.1 a b (by omega)))
  have e7 : ∀ k, τ3.1 7 k = ρ2.1 7 k := fun k => by
    rw [L 7 k (by decide), q8.1 7 k (by omega), q7.1 7 k (by omega), q6.1 7 k (by omega), q5.1 7 k (by omega), q4.1 7 k (by omega), q3.1 7 k (by omega)]
  refine ⟨τ3, ?_, ((G8.tr (t3.mono (fun a b z => by omega) (fun _ _ z => z.elim))).tr (u3.mono (fun a b z => by omega) (fun _ _ z => z.elim))).tr (w3.mono (fun a b z => by omega) (fun _ _ z => z.elim)), ⟨(e7 0).trans (v 0 _ (Or.inl ⟨rfl, rfl⟩)), (e7 1).trans (v 1 _ (Or.inr (Or.inl ⟨rfl, rfl⟩))), (e7 2).trans (v 2 _ (Or.inr (Or.inr (Or.inl ⟨rfl, rfl⟩))))⟩, ⟨(e7 3).trans (v 3 _ (Or.inr (Or.inr (Or.inr (Or.inl ⟨rfl, rfl⟩))))), (e7 4).trans (v 4 _ (Or.inr (Or.inr (Or.inr (Or.inr (Or.inl ⟨rfl, rfl⟩)))))), (e7 5).trans (v 5 _ (Or.inr (Or.inr (Or.inr (Or.inr (Or.inr ⟨rfl, rfl⟩))))))⟩, fun d hd p hp => ?_, fun d hd p hp => ?_, fun r hr => ?_, (t2.fr u3 (fun b => by omega) (fun b => by omega)).fr w3 (fun b => by omega) (fun b => by omega), u2.fr w3 (fun b => by omega) (fun b => by omega), w2⟩
  · unfold f_X10_become
    simp only [kz_lt]
    rw [d1.1, kp_wi_row (by decide), d1.2.1, kp_wi_row (by decide), kp_wi_row (by decide), d1.2.2, kp_wi_row (by decide), kp_wi_row (by decide), kp_wi_row (by decide), d5.1, kp_wi_row (by decide), kp_wi_row (by decide), kp_wi_row (by decide), kp_wi_row (by decide), d5.2.1, kp_wi_row (by decide), kp_wi_row (by decide), kp_wi_row (by decide), kp_wi_row (by decide), kp_wi_row (by decide), d5.2.2, hρ]
    rw [kr7_8, kr7_9, kr7_10, kr7_11, kr7_12, kr7_13, kr7_14, kr7_15, kr7_16, kr25_8, kr25_9, kr25_10, kr25_11, kr25_12, kr25_13, kr25_14, kr25_15, kr25_16]
    rw [kl10, kl11, kl12, kl13, kl14, kl15, kl28, kl29, kl30, kl31, kl32, kl33]
    rw [if_pos (show kf_cok 0 0 24 24 24 = true by decide), if_pos (show kf_cok 0 0 20 20 20 = true by decide), if_pos (show kf_cok 0 0 10 10 10 = true by decide), if_pos (show kf_cok 0 0 10 10 10 = true by decide), if_pos (show kf_cok 0 0 10 10 10 = true by decide), if_pos (show kf_cok 0 0 10 10 10 = true by decide)]
    rw [show Int32.toNatClampNeg 0 = 0 from rfl, show Int32.toNatClampNeg 24 = 24 from rfl, show Int32.toNatClampNeg 20 = 20 from rfl, show Int32.toNatClampNeg 10 = 10 from rfl, h3, h4, h5, h6, h7, h8, t1, Option.bind_some, u1, Option.bind_some, w1, Option.bind_some]
  · rw [L 10 _ (by decide), q8.1 10 _ (by omega), q7.1 10 _ (by omega), q6.1 10 _ (by omega), q5.1 10 _ (by omega), q4.1 10 _ (by omega), n3 _ (by omega), G0.1 28 _ (by omega)]
    exact d3.1 d hd p hp
  · rw [L 11 _ (by decide), q8.1 11 _ (by omega), q7.1 11 _ (by omega), q6.1 11 _ (by omega), q5.1 11 _ (by omega), n4 _ (by omega), G3.1 29 _ (by omega)]
    exact d3.2 d hd p hp
  · obtain ⟨r1, r2, r3, r4⟩ := d4 r hr
    refine ⟨?_, ?_, ?_, ?_⟩
    · rw [L 12 _ (by decide), q8.1 12 _ (by omega), q7.1 12 _ (by omega), q6.1 12 _ (by omega), n5 _ (by omega), G4.1 30 _ (by omega)]; exact r1
    · rw [L 13 _ (by decide), q8.1 13 _ (by omega), q7.1 13 _ (by omega), n6 _ (by omega), G5.1 31 _ (by omega)]; exact r2
    · rw [L 14 _ (by decide), q8.1 14 _ (by omega), n7 _ (by omega), G6.1 32 _ (by omega)]; exact r3
    · rw [L 15 _ (by decide), n8 _ (by omega), G7.1 33 _ (by omega)]; exact r4
