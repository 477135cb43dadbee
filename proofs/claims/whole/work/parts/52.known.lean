/-! ===== pure: KNOWN ===== -/
def kp_knS (u : Nat → Int32) (ne : Int32) : Nat → Int32 × Int32
  | 0 => (-2, 0)
  | c + 1 => if ne < u c then kp_knS u ne c else if (kp_knS u ne c).1 < 0 then (nI c, u c) else if u c < (kp_knS u ne c).2 then (nI c, u c) else kp_knS u ne c
/-- the caller by whom a face is KNOWN, -2: nobody -/
def kp_kn (T : kp_T) (f : Nat → Int32) : Int32 := (kp_knS (fun c => kp_un f (kt_lo T c)) (nI (kt_ne T)) (kt_nc T)).1
theorem kp_knS_inv (u : Nat → Int32) (ne : Int32) : ∀ n, ((kp_knS u ne n).1 = -2) ∨ (∃ j, j < n ∧ (kp_knS u ne n).1 = nI j ∧ (kp_knS u ne n).2 ≤ ne ∧ (kp_knS u ne n).2 = u j)
  | 0 => Or.inl rfl
  | n + 1 => by
    have ih := kp_knS_inv u ne n
    have keep : (kp_knS u ne n).1 = -2 ∨ (∃ j, j < n + 1 ∧ (kp_knS u ne n).1 = nI j ∧ (kp_knS u ne n).2 ≤ ne ∧ (kp_knS u ne n).2 = u j) := by
      rcases ih with h | ⟨j, h1, h2⟩
      · exact Or.inl h
      · exact Or.inr ⟨j, by omega, h2⟩
    show (kp_knS u ne (n + 1)).1 = -2 ∨ _
    rw [show kp_knS u ne (n + 1) = if ne < u n then kp_knS u ne n else if (kp_knS u ne n).1 < 0 then (nI n, u n) else if u n < (kp_knS u ne n).2 then (nI n, u n) else kp_knS u ne n from rfl]
    by_cases h1 : ne < u n
    · rw [if_pos h1]; exact keep
    · have h1' : u n ≤ ne := Int32.not_lt.mp h1
      rw [if_neg h1]
      by_cases h2 : (kp_knS u ne n).1 < 0
      · rw [if_pos h2]; exact Or.inr ⟨n, by omega, rfl, h1', rfl⟩
      · rw [if_neg h2]
        by_cases h3 : u n < (kp_knS u ne n).2
        · rw [if_pos h3]; exact Or.inr ⟨n, by omega, rfl, h1', rfl⟩
        · rw [if_neg h3]; exact keep
theorem kp_knS_s (u : Nat → Int32) (ne : Int32) (c : Nat) : kp_knS u ne (c + 1) = if ne < u c then kp_knS u ne c else if (kp_knS u ne c).1 < 0 then (nI c, u c) else if u c < (kp_knS u ne c).2 then (nI c, u c) else kp_knS u ne c := rfl
theorem kp_m2 : (-2 : Int32) < 0 := by decide
/-- the reference -/
theorem kp_knM_loop {T : kp_T} {lv : Nat} {σ : kf_St} (hT : kp_Tok T) (h : kp_MT T lv σ) {d : Nat} (hd : d < 6) : ∀ (m c : Nat), c + m = kt_nc T → ∀ fuel, m < fuel → f_X12_knownBy_8 fuel 77 (nI d) (kp_knS (fun c => kp_un (fun p => σ.1 112 (4 * d + p)) (kt_lo T c)) (nI (kt_ne T)) c).1 (kp_knS (fun c => kp_un (fun p => σ.1 112 (4 * d + p)) (kt_lo T c)) (nI (kt_ne T)) c).2 (nI c) σ = some (kp_kn T (fun p => σ.1 112 (4 * d + p)), σ) := by
  have h5 := hT.1.2.1
  intro m
  induction m with
  | zero =>
    intro c hc fuel hf
    obtain ⟨n, rfl⟩ := kp_fuel (show 0 < fuel by omega)
    obtain rfl : c = kt_nc T := by omega
    show f_X12_knownBy_8_s _ 77 (nI d) _ _ (nI (kt_nc T)) σ = _
    unfold f_X12_knownBy_8_s
    rw [if_pos (kp_lvix (n := kf_ln (kf_rf 77 25)) h (by decide) (by decide)), kp_lvcl h, show kf_rf 77 25 = 89 from rfl, h.2.2.1.2.1, if_pos (nI_le (Nat.le_refl _) (by omega))]
    rfl
  | succ m ih =>
    intro c hc fuel hf
    obtain ⟨n, rfl⟩ := kp_fuel (show 0 < fuel by omega)
    show f_X12_knownBy_8_s _ 77 (nI d) _ _ (nI c) σ = _
    unfold f_X12_knownBy_8_s
    rw [if_pos (kp_lvix (n := kf_ln (kf_rf 77 25)) h (by decide) (by decide)), kp_lvcl h, show kf_rf 77 25 = 89 from rfl, h.2.2.1.2.1, if_neg (nI_ge (by omega) (by omega)), kp_unM hT h hd (by omega), Option.bind_some]
    dsimp only
    rw [if_pos (kp_lvix (n := kf_ln (kf_rf 77 33)) h (by decide) (by decide)), kp_lvcl h, show kf_rf 77 33 = 97 from rfl, h.2.2.2.1.2.1]
    have ihn := ih (c + 1) (by omega) n (by omega)
    rw [kp_knS_s] at ihn
    unfold f_X12_knownBy_58 f_X12_knownBy_64
    simp only [kf_lt]
    rw [nI_1]
    generalize kp_knS (fun c => kp_un (fun p => σ.1 112 (4 * d + p)) (kt_lo T c)) (nI (kt_ne T)) c = s at ihn ⊢
    by_cases h1 : nI (kt_ne T) < kp_un (fun p => σ.1 112 (4 * d + p)) (kt_lo T c)
    · rw [if_pos h1] at ihn ⊢; exact ihn
    · rw [if_neg h1] at ihn ⊢
      by_cases h2 : s.1 < 0
      · rw [if_pos h2] at ihn ⊢; exact ihn
      · rw [if_neg h2] at ihn ⊢
        by_cases h3 : kp_un (fun p => σ.1 112 (4 * d + p)) (kt_lo T c) < s.2
        · rw [if_pos h3] at ihn ⊢; exact ihn
        · rw [if_neg h3] at ihn ⊢; exact ihn
theorem kp_knM {T : kp_T} {lv : Nat} {σ : kf_St} (hT : kp_Tok T) (h : kp_MT T lv σ) {d : Nat} (hd : d < 6) : f_X12_knownBy 77 (nI d) σ = some (kp_kn T (fun p => σ.1 112 (4 * d + p)), σ) := by
  unfold f_X12_knownBy
  exact kp_knM_loop hT h hd (kt_nc T) 0 (by omega) kf_F (kf_F_gt (by have := hT.1.2.1; omega))
/-- the class -/
theorem kp_knC_loop {T : kp_T} {σ : kf_St} (hT : kp_Tok T) (h : kp_CT T σ) {a : Nat} (ha : kf_ln a = 4) (hs : ∀ p, p < 4 → kp_sm (σ.1 a p)) : ∀ (m c : Nat), c + m = kt_nc T → ∀ fuel, m < fuel → ∀ s, s = kp_knS (fun c => kp_un (σ.1 a) (kt_lo T c)) (nI (kt_ne T)) c → f_X10_knownBy_11 fuel 7 a s.1 (if s.1 < 0 then nI (kt_ne T) else s.2) (nI c) σ = some (kp_kn T (σ.1 a), σ) := by
  have h5 := hT.1.2.1
  intro m
  induction m with
  | zero =>
    intro c hc fuel hf s es
    obtain ⟨n, rfl⟩ := kp_fuel (show 0 < fuel by omega)
    obtain rfl : c = kt_nc T := by omega
    show f_X10_knownBy_11_s _ 7 a _ _ (nI (kt_nc T)) σ = _
    unfold f_X10_knownBy_11_s
    rw [h.1.2.1, if_pos (nI_le (Nat.le_refl _) (by omega)), es]
    rfl
  | succ m ih =>
    intro c hc fuel hf s es
    obtain ⟨n, rfl⟩ := kp_fuel (show 0 < fuel by omega)
    have inv := kp_knS_inv (fun c => kp_un (σ.1 a) (kt_lo T c)) (nI (kt_ne T)) c
    have ihn := ih (c + 1) (by omega) n (by omega) _ rfl
    rw [show kp_knS (fun c => kp_un (σ.1 a) (kt_lo T c)) (nI (kt_ne T)) (c + 1) = if nI (kt_ne T) < kp_un (σ.1 a) (kt_lo T c) then kp_knS (fun c => kp_un (σ.1 a) (kt_lo T c)) (nI (kt_ne T)) c else if (kp_knS (fun c => kp_un (σ.1 a) (kt_lo T c)) (nI (kt_ne T)) c).1 < 0 then (nI c, kp_un (σ.1 a) (kt_lo T c)) else if kp_un (σ.1 a) (kt_lo T c) < (kp_knS (fun c => kp_un (σ.1 a) (kt_lo T c)) (nI (kt_ne T)) c).2 then (nI c, kp_un (σ.1 a) (kt_lo T c)) else kp_knS (fun c => kp_un (σ.1 a) (kt_lo T c)) (nI (kt_ne T)) c from rfl, ← es] at ihn
    rw [← es] at inv
    show f_X10_knownBy_11_s _ 7 a _ _ (nI c) σ = _
    unfold f_X10_knownBy_11_s
    rw [h.1.2.1, if_neg (nI_ge (by omega) (by omega)), kp_unC hT h ha hs (by omega), Option.bind_some]
    unfold f_X10_knownBy_47 f_X10_knownBy_53
    simp only [kf_lt]
    rw [nI_1]
    have take : f_X10_knownBy_11 n 7 a (nI c) (kp_un (σ.1 a) (kt_lo T c)) (nI (c + 1)) σ = some (kp_kn T (σ.1 a), σ) ↔ f_X10_knownBy_11 n 7 a (nI c, kp_un (σ.1 a) (kt_lo T c)).1 (if (nI c, kp_un (σ.1 a) (kt_lo T c)).1 < 0 then nI (kt_ne T) else (nI c, kp_un (σ.1 a) (kt_lo T c)).2) (nI (c + 1)) σ = some (kp_kn T (σ.1 a), σ) := by
      dsimp only
      rw [if_neg (nI_pos (by omega))]
    rcases inv with hb | ⟨j, hj, hb, hle, -⟩
    · have hneg : s.1 < 0 := by rw [hb]; exact kp_m2
      rw [if_pos hneg]
      by_cases h1 : nI (kt_ne T) < kp_un (σ.1 a) (kt_lo T c)
      · rw [if_pos h1, if_pos hneg] at ihn
        rw [if_neg (fun e => by have := kp_ltI.mp h1; have := kp_ltI.mp e; omega), if_pos hb, if_neg (fun e => by have := kp_ltI.mp h1; rw [e] at this; omega)]
        exact ihn
      · rw [if_neg h1, if_pos hneg] at ihn
        have t := take.mpr ihn
        by_cases h2 : kp_un (σ.1 a) (kt_lo T c) < nI (kt_ne T)
        · rw [if_pos h2]; exact t
        · have e : kp_un (σ.1 a) (kt_lo T c) = nI (kt_ne T) := Int32.toInt_inj.mp (by
            have q1 : ¬ (nI (kt_ne T)).toInt < (kp_un (σ.1 a) (kt_lo T c)).toInt := fun e => h1 (kp_ltI.mpr e)
            have q2 : ¬ (kp_un (σ.1 a) (kt_lo T c)).toInt < (nI (kt_ne T)).toInt := fun e => h2 (kp_ltI.mpr e)
            omega)
          rw [if_neg h2, if_pos hb, if_pos e]; exact t
    · have hpos : ¬ s.1 < 0 := by rw [hb]; exact nI_pos (by omega)
      have hne : ¬ s.1 = -2 := fun e => hpos (by rw [e]; exact kp_m2)
      rw [if_neg hpos]
      rw [if_neg hpos] at ihn
      by_cases h1 : kp_un (σ.1 a) (kt_lo T c) < s.2
      · rw [if_pos h1]
        have h2 : ¬ nI (kt_ne T) < kp_un (σ.1 a) (kt_lo T c) := fun e => by
          have := kp_ltI.mp h1; have := kp_leI.mp hle; have := kp_ltI.mp e; omega
        rw [if_neg h2, if_pos h1] at ihn
        exact take.mpr ihn
      · rw [if_neg h1, if_neg hne]
        by_cases h2 : nI (kt_ne T) < kp_un (σ.1 a) (kt_lo T c)
        · rw [if_pos h2, if_neg hpos] at ihn; exact ihn
        · rw [if_neg h2, if_neg h1, if_neg hpos] at ihn; exact ihn
theorem kp_knC {T : kp_T} {σ : kf_St} (hT : kp_Tok T) (h : kp_CT T σ) {a : Nat} (ha : kf_ln a = 4) (hs : ∀ p, p < 4 → kp_sm (σ.1 a p)) : f_X10_knownBy 7 a σ = some (kp_kn T (σ.1 a), σ) := by
  unfold f_X10_knownBy
  simp only [kf_lt]
  rw [h.2.1.2.1]
  have := kp_knC_loop hT h ha hs (kt_nc T) 0 (by omega) kf_F (kf_F_gt (by have := hT.1.2.1; omega)) _ rfl
  rw [show (kp_knS (fun c => kp_un (σ.1 a) (kt_lo T c)) (nI (kt_ne T)) 0) = (-2, 0) from rfl] at this
  dsimp only at this
  rw [if_pos kp_m2] at this
  exact this
theorem kp_un_congr {f g f' g' : Nat → Int32} (h1 : ∀ p, p < 4 → f p = f' p) (h2 : ∀ p, p < 4 → g p = g' p) : kp_un f g = kp_un f' g' := by
  unfold kp_un
  exact kp_sum_congr 4 (fun p hp => by rw [h1 p hp, h2 p hp])
theorem kp_kn_congr {T : kp_T} {f g : Nat → Int32} (h : ∀ p, p < 4 → f p = g p) : kp_kn T f = kp_kn T g := by
  unfold kp_kn
  rw [show (fun c => kp_un f (kt_lo T c)) = (fun c => kp_un g (kt_lo T c)) from funext (fun c => kp_un_congr h (fun _ _ => rfl))]
