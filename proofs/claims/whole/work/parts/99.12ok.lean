/-! ===== pure: what is told without a fault and without a slip is in order ===== -/
theorem kx_nu_e {X : kx_X} {lo hi : Nat} {s : kx_S} {l : kx_sl} (h : (kx_nu X lo hi s l).1 = 0) : kx_nu X lo hi s l = l := by
  obtain ⟨-, b, c⟩ := kx_nu_0 h
  unfold kx_nu
  rw [if_neg (by omega)]
theorem kx_n4_e {X : kx_X} {lo hi : Nat} : ∀ m s l, (kx_n4 X lo hi m s l).1 = 0 → kx_n4 X lo hi m s l = l
  | 0, _, _, _ => rfl
  | m + 1, s, l, h => by
    have h' : (kx_n4 X lo hi m (kx_tk X 3 s) (kx_nu X lo hi s l)).1 = 0 := h
    have e := kx_n4_e m (kx_tk X 3 s) (kx_nu X lo hi s l) h'
    have z : (kx_nu X lo hi s l).1 = 0 := by rw [← e]; exact h'
    show kx_n4 X lo hi m (kx_tk X 3 s) (kx_nu X lo hi s l) = l
    rw [e]; exact kx_nu_e z
theorem kx_l3_e {X : kx_X} {D : kx_D} {s : kx_S} (h : (kx_l3 X D s).1 = 0) : kx_l3 X D s = kd_sl D := by
  unfold kx_l3 at h ⊢
  by_cases c : kx_fd (kd_dn D) (kd_nd D) (kx_V X s.1) < kd_nd D ∨ kx_fd (kd_cn D) (kd_nc D) (kx_V X s.1) < kd_nc D
  · rw [if_pos c] at h; exact absurd h (kx_no_0 (by decide))
  · rw [if_neg c]
theorem kx_l4_e {X : kx_X} {g : Nat → Int64} {n : Nat} {s : kx_S} {l : kx_sl} (h : (kx_l4 X g n s l).1 = 0) : kx_l4 X g n s l = l := by
  have := (kx_l4_0 h).2
  unfold kx_l4
  rw [if_pos this]
def kx_Dk (D : kx_D) : Prop := (∀ d, d < kd_nd D → ∀ p, p < 4 → kp_sm (kd_fi D d p)) ∧ (∀ c, c < kd_nc D → ∀ p, p < 4 → kp_sm (kd_lo D c p)) ∧ (∀ r, r < kd_nr D → kd_rc D r < kd_nc D ∧ kd_rd D r < kd_nd D ∧ 1 ≤ kd_ev D r ∧ kd_ev D r ≤ 30 ∧ kd_fr D r ≤ 29) ∧ (kd_wi D ≤ 100 ∧ kd_ne D ≤ 396 ∧ kd_se D ≤ 9999)
def kx_Di (D : kx_D) : Prop := kx_Db D ∧ ((∀ w, kd_lg D = some w → kx_wok w) ∧ (∀ w, kd_lw D = some w → kx_wok w) ∧ (∀ w, kd_lp D = some w → kx_wok w)) ∧ ((kd_sl D).1 = 0 → (kd_sl D).2 = -1 ∧ kx_Dk D)
/-- a step without a fault -/
def kx_si (s : kx_S) (r : kx_S × kx_D) : Prop := r.1.2 = 0 → kx_Di r.2 ∧ s.1 ≤ r.1.1
theorem kx_i_face {X : kx_X} {s : kx_S} {l : kx_sl} (h : (kx_n4 X 0 99 4 s l).1 = 0) (h0 : (kx_t3 X 4 s).2 = 0) : ∀ p, p < 4 → kp_sm (kx_fc X s p) := fun p hp => ⟨kx_N X (s.1 + p), by have := ((kx_n4_0 4 s l h).2 h0 p hp).2; omega, rfl⟩
theorem kx_i_td {X : kx_X} {D : kx_D} {s : kx_S} (hi : kx_Di D) : kx_si s (kx_td X s D) := by
  obtain ⟨⟨b1, b2, b3⟩, hw, hk⟩ := hi
  unfold kx_si kx_td
  by_cases c : kd_nd D < 6
  · rw [if_pos c]
    dsimp only
    intro q
    have t := kx_t3_0 4 _ q
    have l1 := kx_tk_le X 256 s
    have l2 : (kx_tk X 256 s).1 ≤ (kx_d1 X s).1 := kx_tk_le X 2 _
    refine ⟨⟨⟨by show kd_nd D + 1 ≤ 6; omega, b2, b3⟩, hw, fun z => ?_⟩, by omega⟩
    have z : (kx_n4 X 0 99 4 (kx_d1 X s) (kx_l3 X D (kx_tk X 256 s))).1 = 0 := z
    have z3 := (kx_n4_0 4 _ _ z).1
    have z0 := kx_l3_0 z3
    obtain ⟨k1, k2, k3, k4, k5⟩ := hk z0
    refine ⟨?_, fun d hd p hp => ?_, k3, fun r hr => ?_, k5⟩
    · show (kx_n4 X 0 99 4 (kx_d1 X s) (kx_l3 X D (kx_tk X 256 s))).2 = -1
      rw [kx_n4_e 4 _ _ z, kx_l3_e z3]; exact k1
    · show kp_sm (kx_up (kd_fi D) (kd_nd D) (kx_fc X (kx_d1 X s)) d p)
      have hd : d < kd_nd D + 1 := hd
      by_cases e : d = kd_nd D
      · rw [e, kx_up_s]; exact kx_i_face z q p hp
      · rw [kx_up_o e]; exact k2 d (by omega) p hp
    · obtain ⟨r1, r2, r3⟩ := k4 r hr
      exact ⟨r1, by show kd_rd D r < kd_nd D + 1; omega, r3⟩
  · rw [if_neg c]
    exact fun q => absurd q (by show ¬ 2 = 0; decide)
theorem kx_i_tc {X : kx_X} {D : kx_D} {s : kx_S} (hi : kx_Di D) : kx_si s (kx_tc X s D) := by
  obtain ⟨⟨b1, b2, b3⟩, hw, hk⟩ := hi
  unfold kx_si kx_tc
  by_cases c : kd_nc D < 5
  · rw [if_pos c]
    dsimp only
    intro q
    have t := kx_t3_0 4 _ q
    have l1 := kx_tk_le X 257 s
    have l2 : (kx_tk X 257 s).1 ≤ (kx_c1 X s).1 := kx_tk_le X 2 _
    refine ⟨⟨⟨b1, by show kd_nc D + 1 ≤ 5; omega, b3⟩, hw, fun z => ?_⟩, by omega⟩
    have z : (kx_n4 X 0 99 4 (kx_c1 X s) (kx_l3 X D (kx_tk X 257 s))).1 = 0 := z
    have z3 := (kx_n4_0 4 _ _ z).1
    have z0 := kx_l3_0 z3
    obtain ⟨k1, k2, k3, k4, k5⟩ := hk z0
    refine ⟨?_, k2, fun d hd p hp => ?_, fun r hr => ?_, k5⟩
    · show (kx_n4 X 0 99 4 (kx_c1 X s) (kx_l3 X D (kx_tk X 257 s))).2 = -1
      rw [kx_n4_e 4 _ _ z, kx_l3_e z3]; exact k1
    · show kp_sm (kx_up (kd_lo D) (kd_nc D) (kx_fc X (kx_c1 X s)) d p)
      have hd : d < kd_nc D + 1 := hd
      by_cases e : d = kd_nc D
      · rw [e, kx_up_s]; exact kx_i_face z q p hp
      · rw [kx_up_o e]; exact k3 d (by omega) p hp
    · obtain ⟨r1, r2⟩ := k4 r hr
      exact ⟨by show kd_rc D r < kd_nc D + 1; omega, r2⟩
  · rw [if_neg c]
    exact fun q => absurd q (by show ¬ 2 = 0; decide)
theorem kx_i_tr {X : kx_X} {D : kx_D} {s : kx_S} (hi : kx_Di D) : kx_si s (kx_tr X s D) := by
  obtain ⟨⟨b1, b2, b3⟩, hw, hk⟩ := hi
  unfold kx_si kx_tr
  by_cases c : kd_nr D < 10
  · rw [if_pos c]
    dsimp only
    intro q
    have l1 : s.1 ≤ (kx_r1 X s).1 := kx_tk_le X 258 s
    have l2 : (kx_r1 X s).1 ≤ (kx_r2 X s).1 := kx_tk_le X 2 _
    have l3 : (kx_r2 X s).1 ≤ (kx_r3 X s).1 := kx_tk_le X 2 _
    have l4 : (kx_r3 X s).1 ≤ (kx_r4 X s).1 := kx_tk_le X 3 _
    have l5 := kx_tk_le X 3 (kx_r4 X s)
    refine ⟨⟨⟨b1, b2, by show kd_nr D + 1 ≤ 10; omega⟩, hw, fun z => ?_⟩, by omega⟩
    have z : (kx_nu X 0 29 (kx_r4 X s) (kx_nu X 1 30 (kx_r3 X s) (kx_l4 X (kd_dn D) (kd_nd D) (kx_r2 X s) (kx_l4 X (kd_cn D) (kd_nc D) (kx_r1 X s) (kd_sl D))))).1 = 0 := z
    obtain ⟨z1, n1, n2⟩ := kx_nu_0 z
    obtain ⟨z2, n3, n4⟩ := kx_nu_0 z1
    obtain ⟨z3, f1⟩ := kx_l4_0 z2
    obtain ⟨z4, f2⟩ := kx_l4_0 z3
    obtain ⟨k1, k2, k3, k4, k5⟩ := hk z4
    refine ⟨?_, k2, k3, fun r hr => ?_, k5⟩
    · show (kx_nu X 0 29 (kx_r4 X s) (kx_nu X 1 30 (kx_r3 X s) (kx_l4 X (kd_dn D) (kd_nd D) (kx_r2 X s) (kx_l4 X (kd_cn D) (kd_nc D) (kx_r1 X s) (kd_sl D))))).2 = -1
      rw [kx_nu_e z, kx_nu_e z1, kx_l4_e z2, kx_l4_e z3]; exact k1
    · have hr : r < kd_nr D + 1 := hr
      show kx_up (kd_rc D) (kd_nr D) (kx_f0 X (kd_cn D) (kd_nc D) (kx_r1 X s)) r < kd_nc D ∧ kx_up (kd_rd D) (kd_nr D) (kx_f0 X (kd_dn D) (kd_nd D) (kx_r2 X s)) r < kd_nd D ∧ 1 ≤ kx_up (kd_ev D) (kd_nr D) (kx_N X (kx_r3 X s).1) r ∧ kx_up (kd_ev D) (kd_nr D) (kx_N X (kx_r3 X s).1) r ≤ 30 ∧ kx_up (kd_fr D) (kd_nr D) (kx_N X (kx_r4 X s).1) r ≤ 29
      by_cases e : r = kd_nr D
      · rw [e, kx_up_s, kx_up_s, kx_up_s, kx_up_s]
        unfold kx_f0
        rw [if_pos f1, if_pos f2]
        exact ⟨f2, f1, n3, n4, n2⟩
      · rw [kx_up_o e, kx_up_o e, kx_up_o e, kx_up_o e]
        exact k4 r (by omega)
  · rw [if_neg c]
    exact fun q => absurd q (by show ¬ 2 = 0; decide)
theorem kx_i_ts {X : kx_X} {d hi : Nat} {D : kx_D} {s : kx_S} (hd : (d = 262 ∧ hi = 100) ∨ (d = 263 ∧ hi = 396) ∨ (d = 264 ∧ hi = 9999)) (h : kx_Di D) : kx_si s (kx_ts X d hi s D) := by
  obtain ⟨hb, hw, hk⟩ := h
  intro q
  have l1 := kx_tk_le X d s
  have l2 := kx_tk_le X 3 (kx_tk X d s)
  refine ⟨⟨hb, hw, fun z => ?_⟩, by show s.1 ≤ (kx_tk X 3 (kx_tk X d s)).1; omega⟩
  have z : (kx_nu X 0 hi (kx_tk X d s) (kd_sl D)).1 = 0 := z
  obtain ⟨z1, n1, n2⟩ := kx_nu_0 z
  obtain ⟨k1, k2, k3, k4, k5, k6, k7⟩ := hk z1
  refine ⟨?_, k2, k3, k4, ?_⟩
  · show (kx_nu X 0 hi (kx_tk X d s) (kd_sl D)).2 = -1
    rw [kx_nu_e z]; exact k1
  · show (if d = 262 then kx_N X (kx_tk X d s).1 else kd_wi D) ≤ 100 ∧ (if d = 263 then kx_N X (kx_tk X d s).1 else kd_ne D) ≤ 396 ∧ (if d = 264 then kx_N X (kx_tk X d s).1 else kd_se D) ≤ 9999
    refine ⟨?_, ?_, ?_⟩
    · by_cases e : d = 262
      · rw [if_pos e]; omega
      · rw [if_neg e]; exact k5
    · by_cases e : d = 263
      · rw [if_pos e]; omega
      · rw [if_neg e]; exact k6
    · by_cases e : d = 264
      · rw [if_pos e]; omega
      · rw [if_neg e]; exact k7
theorem kx_i_tl {X : kx_X} {S : kx_sf} {d : Nat} {D : kx_D} {s : kx_S} (hS : kx_gd X 15 S) (hg : kx_g X s) (hd : 259 ≤ d ∧ d ≤ 261) (h : kx_Di D) : kx_si s (kx_tl X S d s D) := by
  obtain ⟨hb, ⟨w1, w2, w3⟩, hk⟩ := h
  intro q
  have q : (kx_lr X S d s).1.2 = 0 := q
  have L := (kx_ll_ok hS 5 (kx_tk X 61 (kx_tk X d s)) [] (kx_tk_g (by decide) (kx_tk_g (by omega) hg)) (fun _ b hb => absurd hb List.not_mem_nil)).2
  rw [← show kx_lr X S d s = kx_ll X S 5 (kx_tk X 61 (kx_tk X d s)) [] from rfl] at L
  obtain ⟨x1, x2, x3⟩ := L q
  have l1 := kx_tk_le X d s
  have l2 := kx_tk_le X 61 (kx_tk X d s)
  refine ⟨⟨hb, ⟨?_, ?_, ?_⟩, hk⟩, by show s.1 ≤ (kx_lr X S d s).1.1; omega⟩
  · show ∀ w, (if d = 259 then some (kx_lr X S d s).2 else kd_lg D) = some w → kx_wok w
    by_cases e : d = 259
    · rw [if_pos e]; intro w hw; cases hw; exact x3
    · rw [if_neg e]; exact w1
  · show ∀ w, (if d = 260 then some (kx_lr X S d s).2 else kd_lw D) = some w → kx_wok w
    by_cases e : d = 260
    · rw [if_pos e]; intro w hw; cases hw; exact x3
    · rw [if_neg e]; exact w2
  · show ∀ w, (if d = 261 then some (kx_lr X S d s).2 else kd_lp D) = some w → kx_wok w
    by_cases e : d = 261
    · rw [if_pos e]; intro w hw; cases hw; exact x3
    · rw [if_neg e]; exact w3
theorem kx_i_te {X : kx_X} {S : kx_sf} {D : kx_D} {s : kx_S} (hS : kx_gd X 15 S) (hg : kx_g X s) (h : kx_Di D) (q : (kx_te X S s D).1.2 = 0) : kx_Di (kx_te X S s D).2 ∧ s.1 < (kx_te X S s D).1.1 := by
  have main : kx_si s (kx_t1 X S s D) := by
    unfold kx_t1
    by_cases c1 : kx_K X s.1 = 256
    · rw [if_pos c1]; exact kx_i_td h
    rw [if_neg c1]
    by_cases c2 : kx_K X s.1 = 257
    · rw [if_pos c2]; exact kx_i_tc h
    rw [if_neg c2]
    by_cases c3 : kx_K X s.1 = 258
    · rw [if_pos c3]; exact kx_i_tr h
    rw [if_neg c3]
    by_cases c4 : kx_K X s.1 = 259 ∨ kx_K X s.1 = 260 ∨ kx_K X s.1 = 261
    · rw [if_pos c4]; exact kx_i_tl hS hg (by omega) h
    rw [if_neg c4]
    by_cases c5 : kx_K X s.1 = 262
    · rw [if_pos c5]; exact kx_i_ts (Or.inl ⟨rfl, rfl⟩) h
    rw [if_neg c5]
    by_cases c6 : kx_K X s.1 = 263
    · rw [if_pos c6]; exact kx_i_ts (Or.inr (Or.inl ⟨rfl, rfl⟩)) h
    rw [if_neg c6]
    by_cases c7 : kx_K X s.1 = 264
    · rw [if_pos c7]; exact kx_i_ts (Or.inr (Or.inr ⟨rfl, rfl⟩)) h
    rw [if_neg c7]
    exact fun q => absurd q (by show ¬ 1 = 0; decide)
  rw [show (kx_te X S s D).1 = kx_tk X 59 (kx_t1 X S s D).1 from rfl] at q ⊢
  obtain ⟨a, b, c, d⟩ := kx_tk_0 q
  obtain ⟨e, f⟩ := main a
  exact ⟨e, by rw [d]; show s.1 < (kx_t1 X S s D).1.1 + 1; omega⟩
/-! the whole of it -/
def kx_rw (X : kx_X) (S : kx_sf) : Nat → kx_S → kx_D → kx_S × kx_D
  | 0, s, D => (s, D)
  | g + 1, s, D => if s.2 = 0 ∧ ¬ kx_K X s.1 = 0 then kx_rw X S g (kx_te X S s D).1 (kx_te X S s D).2 else (s, D)
def kx_D0 : kx_D := ((0, -1), (0, 0, 0), (fun _ => 0, fun _ => 0), (fun _ _ => 0, fun _ _ => 0), (fun _ => 0, fun _ => 0, fun _ => 0, fun _ => 0), (0, 40, 0), (none, none, none))
theorem kx_Di0 : kx_Di kx_D0 := ⟨⟨by decide, by decide, by decide⟩, ⟨fun w h => (by cases h), fun w h => (by cases h), fun w h => (by cases h)⟩, fun _ => ⟨rfl, fun d hd => absurd hd (Nat.not_lt_zero d), fun d hd => absurd hd (Nat.not_lt_zero d), fun d hd => absurd hd (Nat.not_lt_zero d), by decide, by decide, by decide⟩⟩
