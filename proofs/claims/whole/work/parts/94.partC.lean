/-! ===== pure: the class reads numbers, names, faces ===== -/
abbrev kx_sl : Type := Nat × Int32
def kx_no (X : kx_X) (k t : Nat) (l : kx_sl) : kx_sl := if l.1 = 0 then (k, nI (kx_P X t)) else l
def kx_nu (X : kx_X) (lo hi : Nat) (s : kx_S) (l : kx_sl) : kx_sl := if kx_N X s.1 < lo ∨ hi < kx_N X s.1 then kx_no X 5 s.1 l else l
def kx_t3 (X : kx_X) : Nat → kx_S → kx_S
  | 0, s => s
  | m + 1, s => kx_t3 X m (kx_tk X 3 s)
def kx_n4 (X : kx_X) (lo hi : Nat) : Nat → kx_S → kx_sl → kx_sl
  | 0, _, l => l
  | m + 1, s, l => kx_n4 X lo hi m (kx_tk X 3 s) (kx_nu X lo hi s l)
theorem kx_t3_0 {X : kx_X} : ∀ m s, (kx_t3 X m s).2 = 0 → s.2 = 0 ∧ (kx_t3 X m s).1 = s.1 + m
  | 0, s, h => ⟨h, rfl⟩
  | m + 1, s, h => by
    obtain ⟨a, b⟩ := kx_t3_0 m (kx_tk X 3 s) h
    obtain ⟨c, d, e, f⟩ := kx_tk_0 a
    refine ⟨c, ?_⟩
    show (kx_t3 X m (kx_tk X 3 s)).1 = _
    rw [b, f]
    show s.1 + 1 + m = _
    omega
theorem kx_t3_g {X : kx_X} : ∀ m s, kx_g X s → kx_g X (kx_t3 X m s)
  | 0, _, h => h
  | m + 1, _, h => kx_t3_g m _ (kx_tk_g (by decide) h)
def kx_SC (l : kx_sl) (σ : kf_St) : Prop := σ.1 43 6 = nI l.1 ∧ σ.1 43 7 = l.2 ∧ l.1 ≤ 5
def kx_4P (a _ : Nat) : Prop := a = 43
theorem kx_fr.f4 {σ τ : kf_St} (c : kx_fr kx_tP3 kx_n0 σ τ) : kx_fr kx_4P kx_n0 σ τ := c.mono (fun _ _ h => h.1) (fun _ _ h => h)
theorem kx_SC.tk {l : kx_sl} {σ τ : kf_St} (h : kx_SC l σ) (c : kx_fr kx_tP3 kx_n0 σ τ) : kx_SC l τ := ⟨(c.1 43 6 (by unfold kx_tP3; omega)).trans h.1, (c.1 43 7 (by unfold kx_tP3; omega)).trans h.2.1, h.2.2⟩
theorem kC_pla {X : kx_X} {s : kx_S} {σ : kf_St} (h : kx_ok X s.1) (ha : ∀ j, kx_ok X j → kx_aC X j σ) : f_X8_placeAt 1 (nI s.1) σ = some (nI (kx_P X s.1), σ) := by
  have t4 := h.1
  unfold f_X8_placeAt
  rw [kr1_4, kl5, if_neg (nI_pos (by omega)), if_neg (nI_ge (by omega) (by decide)), if_pos (kf_ixN (by omega) (by decide)), nI_clamp (by omega), (ha s.1 h).2.1]
theorem kC_note {X : kx_X} {s : kx_S} {σ : kf_St} {k : Nat} (h : kx_RC X s σ) (hk : k ≤ 5) : ∃ τ, f_X6_noteSlip 43 (nI k) σ = some τ ∧ kx_RC X s τ ∧ (∀ l, kx_SC l σ → kx_SC (kx_no X k s.1 l) τ) ∧ kx_fr (fun a b => a = 43 ∧ (b = 6 ∨ b = 7)) kx_n0 σ τ := by
  unfold f_X6_noteSlip
  simp only [kz_lt]
  by_cases c : σ.1 43 6 = 0
  · rw [if_pos c]
    have c1 : kx_fr (fun a b => a = 43 ∧ (b = 6 ∨ b = 7)) kx_n0 σ (kf_wi σ 43 6 (nI k)) := kx_fr.rf.wi ⟨rfl, Or.inl rfl⟩
    have h1 : kx_RC X s (kf_wi σ 43 6 (nI k)) := h.fr c1 ⟨by omega, by omega, by omega⟩ (fun b => by omega) (fun b => by omega) (fun b q => q)
    have c2 : kx_fr (fun a b => a = 43 ∧ (b = 6 ∨ b = 7)) kx_n0 σ (kf_wi (kf_wi σ 43 6 (nI k)) 43 7 (nI (kx_P X s.1))) := c1.wi ⟨rfl, Or.inr rfl⟩
    refine ⟨_, ?_, h.fr c2 ⟨by omega, by omega, by omega⟩ (fun b => by omega) (fun b => by omega) (fun b q => q), fun l hl => ?_, c2⟩
    · rw [kr43_2, h1.2.2.2.1, kC_pla h1.1.1 h1.2.1, Option.bind_some]
    · have l0 : l.1 = 0 := by
        have z := hl.1.symm.trans c
        have z2 := hl.2.2
        exact (nI_eq (b := 0) (by omega) (by decide)).mp z
      unfold kx_no
      rw [if_pos l0]
      exact ⟨(kp_wi_ne (by omega)).trans (kp_wi_same _ _ _ _), kp_wi_same _ _ _ _, hk⟩
  · rw [if_neg c]
    refine ⟨σ, rfl, h, fun l hl => ?_, kx_fr.rf⟩
    unfold kx_no
    rw [if_neg (fun z => c (by rw [hl.1, z]; rfl))]
    exact hl
theorem kC_num {X : kx_X} {s : kx_S} {σ : kf_St} {lo hi : Nat} (h : kx_RC X s σ) (hl : lo < 10000 ∧ hi < 10000) : ∃ v τ, f_X6_readNumber 43 (nI lo) (nI hi) σ = some (v, τ) ∧ kx_RC X (kx_tk X 3 s) τ ∧ ((kx_tk X 3 s).2 = 0 → v = nI (kx_N X s.1) ∧ ∀ l, kx_SC l σ → kx_SC (kx_nu X lo hi s l) τ) ∧ kx_fr kx_4P kx_n0 σ τ := by
  have kl := kx_K_lt X s.1
  have t36 : ∀ v, ∀ τ, kx_RC X s τ → ∃ τ', f_X6_readNumber_36 43 v τ = some (v, τ') ∧ kx_RC X (kx_tk X 3 s) τ' ∧ (∀ l, kx_SC l τ → kx_SC l τ') ∧ kx_fr kx_4P kx_n0 τ τ' := by
    intro v τ hτ
    obtain ⟨τ', t1, t2, t3⟩ := kC_take (d := 3) hτ (by decide) (by decide)
    refine ⟨τ', ?_, t2, fun l hl => hl.tk t3, t3.f4⟩
    unfold f_X6_readNumber_36
    rw [show (3 : Int32) = nI 3 from rfl, t1, Option.bind_some]
  have t31 : ∀ v, ∃ τ', f_X6_readNumber_31 43 v σ = some (v, τ') ∧ kx_RC X (kx_tk X 3 s) τ' ∧ (∀ l, kx_SC l σ → kx_SC (kx_no X 5 s.1 l) τ') ∧ kx_fr kx_4P kx_n0 σ τ' := by
    intro v
    obtain ⟨τ1, t1, t2, t3, t4⟩ := kC_note (k := 5) h (by decide)
    obtain ⟨τ2, u1, u2, u3, u4⟩ := t36 v τ1 t2
    refine ⟨τ2, ?_, u2, fun l hl => u3 _ (t3 l hl), (t4.mono (fun _ _ q => q.1) (fun _ _ q => q)).tr u4⟩
    unfold f_X6_readNumber_31
    rw [show (5 : Int32) = nI 5 from rfl, t1, Option.bind_some, u1]
  unfold f_X6_readNumber
  simp only [kz_lt]
  rw [kr43_2, h.2.2.2.1, kC_val h, Option.bind_some]
  dsimp only
  rw [h.2.2.2.2]
  by_cases c : kx_K X s.1 = 3
  · obtain ⟨n3, v3⟩ := kx_N3 c
    rw [if_pos (show nI (kx_K X s.1) = 3 by rw [c]; rfl), v3, kx_v32 n3]
    by_cases c1 : kx_N X s.1 < lo
    · rw [if_pos (nI_lt c1 (by omega))]
      obtain ⟨τ, t1, t2, t3, t4⟩ := t31 (nI (kx_N X s.1))
      refine ⟨_, τ, t1, t2, fun _ => ⟨rfl, fun l hl => ?_⟩, t4⟩
      unfold kx_nu
      rw [if_pos (Or.inl c1)]
      exact t3 l hl
    · rw [if_neg (nI_nlt (by omega) (by omega))]
      by_cases c2 : hi < kx_N X s.1
      · rw [if_neg (nI_ge c2 (by omega))]
        obtain ⟨τ, t1, t2, t3, t4⟩ := t31 (nI (kx_N X s.1))
        refine ⟨_, τ, t1, t2, fun _ => ⟨rfl, fun l hl => ?_⟩, t4⟩
        unfold kx_nu
        rw [if_pos (Or.inr c2)]
        exact t3 l hl
      · rw [if_pos (nI_le (by omega) (by omega))]
        obtain ⟨τ, t1, t2, t3, t4⟩ := t36 (nI (kx_N X s.1)) σ h
        refine ⟨_, τ, t1, t2, fun _ => ⟨rfl, fun l hl => ?_⟩, t4⟩
        unfold kx_nu
        rw [if_neg (fun q => by rcases q with q | q; exact c1 q; exact c2 q)]
        exact t3 l hl
  · rw [if_neg (show ¬ nI (kx_K X s.1) = 3 from fun q => c ((nI_eq (b := 3) (by omega) (by decide)).mp q))]
    obtain ⟨τ, t1, t2, t3, t4⟩ := t36 (Int64.toInt32 (kx_V X s.1)) σ h
    exact ⟨_, τ, t1, t2, fun q => absurd (kx_tk_0 q).2.1 c, t4⟩
def kx_fP (c lo hi a b : Nat) : Prop := a = 43 ∨ (a = c ∧ lo ≤ b ∧ b < hi)
theorem kx_RC.oth {X : kx_X} {s : kx_S} {σ τ : kf_St} {P : Nat → Nat → Prop} {Q : Nat → Nat → Prop} (h : kx_RC X s σ) (c : kx_fr P Q σ τ) (hP : ∀ a b, P a b → 7 ≤ a ∧ a ≠ 43) (hQ : ∀ a b, Q a b → 7 ≤ a) : kx_RC X s τ := h.fr c ⟨fun q => (hP _ _ q).2 rfl, fun q => (hP _ _ q).2 rfl, fun q => (hP _ _ q).2 rfl⟩ (fun b q => by have := (hP _ _ q).1; omega) (fun b q => by have := (hP _ _ q).1; omega) (fun b q => by have := hQ _ _ q; omega)
theorem kC_face_l {X : kx_X} {c row : Nat} (hc : 7 ≤ c ∧ c < 43) (hr : 4 * row + 4 ≤ kf_ln c) (hn : kf_ln c ≤ 100) : ∀ m p, p + m = 4 → ∀ f, m < f → ∀ s σ, kx_RC X s σ → ∃ τ, f_X6_readFace_2 f 43 c (nI row) (nI p) σ = some τ ∧ kx_RC X (kx_t3 X m s) τ ∧ kx_fr (kx_fP c (4 * row + p) (4 * row + 4)) kx_n0 σ τ ∧ ((kx_t3 X m s).2 = 0 → (∀ j, j < m → τ.1 c (4 * row + p + j) = nI (kx_N X (s.1 + j))) ∧ ∀ l, kx_SC l σ → kx_SC (kx_n4 X 0 99 m s l) τ) := by
  intro m
  induction m with
  | zero =>
    intro p hp f hf s σ h
    obtain ⟨f, rfl⟩ := kp_fuel hf
    refine ⟨σ, ?_, h, kx_fr.rf, fun _ => ⟨fun j hj => absurd hj (Nat.not_lt_zero j), fun l hl => hl⟩⟩
    show f_X6_readFace_2_s _ 43 c (nI row) (nI p) σ = _
    unfold f_X6_readFace_2_s
    rw [if_pos (show (4 : Int32) ≤ nI p from nI_le (a := 4) (by omega) (by omega))]
  | succ m ih =>
    intro p hp f hf s σ h
    obtain ⟨f, rfl⟩ := kp_fuel (show 0 < f by omega)
    obtain ⟨v, τ1, t1, t2, t3, t4⟩ := kC_num (lo := 0) (hi := 99) h (by decide)
    have c1 : kx_fr (fun a b => a = c ∧ b = 4 * row + p) kx_n0 τ1 (kf_wi τ1 c (4 * row + p) v) := kx_fr.rf.wi ⟨rfl, rfl⟩
    obtain ⟨τ2, u1, u2, u3, u4⟩ := ih (p + 1) (by omega) f (by omega) (kx_tk X 3 s) (kf_wi τ1 c (4 * row + p) v) (t2.oth c1 (fun a b q => by omega) (fun a b q => q.elim))
    refine ⟨τ2, ?_, u2, ?_, fun q => ?_⟩
    · show f_X6_readFace_2_s _ 43 c (nI row) (nI p) σ = _
      unfold f_X6_readFace_2_s f_X6_readFace_35
      simp only [kz_lt]
      rw [if_neg (show ¬ (4 : Int32) ≤ nI p from nI_ge (b := 4) (by omega) (by decide)), show f_X6_readNumber 43 0 99 σ = some (v, τ1) from t1, Option.bind_some]
      dsimp only
      rw [kp_n4, if_neg (nI_ge (by omega) (by omega)), if_pos (kf_ixN (by omega) (by omega)), nI_clamp (by omega), nI_1]
      exact u1
    · exact ((t4.mono (fun a b q => Or.inl q) (fun _ _ q => q)).tr (c1.mono (fun a b q => Or.inr ⟨q.1, by omega, by omega⟩) (fun _ _ q => q))).tr (u3.mono (fun a b q => q.elim Or.inl (fun q => Or.inr ⟨q.1, by omega, q.2.2⟩)) (fun _ _ q => q))
    · obtain ⟨w1, w2⟩ := u4 q
      have q0 := (kx_t3_0 m (kx_tk X 3 s) q).1
      obtain ⟨y1, y2⟩ := t3 q0
      have es : (kx_tk X 3 s).1 = s.1 + 1 := by rw [(kx_tk_0 q0).2.2.2]
      refine ⟨fun j hj => ?_, fun l hl => ?_⟩
      · by_cases j0 : j = 0
        · subst j0
          rw [u3.1 c (4 * row + p + 0) (by unfold kx_fP; omega), Nat.add_zero, kp_wi_same, y1, Nat.add_zero]
        · have := w1 (j - 1) (by omega)
          rw [es, show 4 * row + (p + 1) + (j - 1) = 4 * row + p + j by omega, show s.1 + 1 + (j - 1) = s.1 + j by omega] at this
          exact this
      · refine w2 _ ?_
        obtain ⟨z1, z2, z3⟩ := y2 l hl
        exact ⟨(c1.1 43 6 (by omega)).trans z1, (c1.1 43 7 (by omega)).trans z2, z3⟩
theorem kC_face {X : kx_X} {c row : Nat} {s : kx_S} {σ : kf_St} (hc : 7 ≤ c ∧ c < 43) (hr : 4 * row + 4 ≤ kf_ln c) (hn : kf_ln c ≤ 100) (h : kx_RC X s σ) : ∃ τ, f_X6_readFace 43 c (nI row) σ = some τ ∧ kx_RC X (kx_t3 X 4 s) τ ∧ kx_fr (kx_fP c (4 * row) (4 * row + 4)) kx_n0 σ τ ∧ ((kx_t3 X 4 s).2 = 0 → (∀ j, j < 4 → τ.1 c (4 * row + j) = nI (kx_N X (s.1 + j))) ∧ ∀ l, kx_SC l σ → kx_SC (kx_n4 X 0 99 4 s l) τ) := by
  unfold f_X6_readFace
  exact kC_face_l hc hr hn 4 0 rfl kf_F (kf_F_gt (by decide)) s σ h
/-! names -/
def kx_fd (g : Nat → Int64) (n : Nat) (v : Int64) : Nat := kp_fn (fun i => decide (g i = v)) n 0
theorem kx_fd_c {g h : Nat → Int64} {n : Nat} {v : Int64} (e : ∀ i, i < n → g i = h i) : kx_fd g n v = kx_fd h n v := by
  have : ∀ m i, i + m ≤ n → kp_fn (fun i => decide (g i = v)) m i = kp_fn (fun i => decide (h i = v)) m i := by
    intro m
    induction m with
    | zero => intro i _; rfl
    | succ m ih =>
      intro i hi
      show (if decide (g i = v) then i else kp_fn _ m (i + 1)) = if decide (h i = v) then i else kp_fn _ m (i + 1)
      rw [e i (by omega), ih (i + 1) (by omega)]
  exact this n 0 (by omega)
theorem kx_fd_le (g : Nat → Int64) (n : Nat) (v : Int64) : kx_fd g n v ≤ n := by
  rcases kp_fn_i (fun i => decide (g i = v)) n 0 with h | h
  · unfold kx_fd; omega
  · unfold kx_fd; omega
theorem kx_fd_lt {g : Nat → Int64} {n : Nat} {v : Int64} (h : kx_fd g n v < n) : g (kx_fd g n v) = v := by
  rcases kp_fn_i (fun i => decide (g i = v)) n 0 with q | q
  · unfold kx_fd at h; omega
  · exact of_decide_eq_true q.2
theorem kx_fd_min {g : Nat → Int64} {n k : Nat} {v : Int64} (h : k < kx_fd g n v) : ¬ g k = v := fun q => kp_fn_min (fun i => decide (g i = v)) n 0 k (Nat.zero_le _) h (decide_eq_true q)
theorem kC_row {c n : Nat} {v : Int64} {σ : kf_St} (hn : n ≤ kf_ln c) (hl : kf_ln c ≤ 100) : f_X10_rowOf v c (nI n) σ = some (if kx_fd (σ.2 c) n v < n then nI (kx_fd (σ.2 c) n v) else -1, σ) := by
  unfold f_X10_rowOf kx_fd
  have main := kp_run (n := n) (fun k f => f_X10_rowOf_3 f v c (nI n) (nI k) σ = some (if kp_fn (fun i => decide (σ.2 c i = v)) (n - k) k < n then nI (kp_fn (fun i => decide (σ.2 c i = v)) (n - k) k) else -1, σ)) (by omega) (fun f => ?_) (fun k hk f ih => ?_)
  · exact main
  · show f_X10_rowOf_3_s _ v c (nI n) (nI n) σ = _
    unfold f_X10_rowOf_3_s
    rw [if_pos (nI_le (Nat.le_refl _) (by omega)), Nat.sub_self]
    rw [show kp_fn (fun i => decide (σ.2 c i = v)) 0 n = n from rfl, if_neg (Nat.lt_irrefl _)]
  · show f_X10_rowOf_3_s _ v c (nI n) (nI k) σ = _
    unfold f_X10_rowOf_3_s
    simp only [kz_lt]
    rw [if_neg (nI_ge hk (by omega)), if_neg (nI_ge (by omega) (by omega)), if_pos (kf_ixN (by omega) (by omega)), nI_clamp (by omega), kp_fn_s hk]
    by_cases b : σ.2 c k = v
    · rw [if_pos ((lg_cmp_eq _ _).mpr b), if_pos (decide_eq_true b), if_pos hk]
    · rw [if_neg (fun q => b ((lg_cmp_eq _ _).mp q)), nI_1, ih, if_neg (show ¬ decide (σ.2 c k = v) = true from fun q => b (of_decide_eq_true q))]
