/-! ===== pure: the class reads what is told ===== -/
abbrev kx_D : Type := kx_sl × (Nat × Nat × Nat) × ((Nat → Int64) × (Nat → Int64)) × ((Nat → Nat → Int32) × (Nat → Nat → Int32)) × ((Nat → Nat) × (Nat → Nat) × (Nat → Nat) × (Nat → Nat)) × (Nat × Nat × Nat) × (Option kx_w × Option kx_w × Option kx_w)
abbrev kd_sl (D : kx_D) : kx_sl := D.1
abbrev kd_nd (D : kx_D) : Nat := D.2.1.1
abbrev kd_nc (D : kx_D) : Nat := D.2.1.2.1
abbrev kd_nr (D : kx_D) : Nat := D.2.1.2.2
abbrev kd_dn (D : kx_D) : Nat → Int64 := D.2.2.1.1
abbrev kd_cn (D : kx_D) : Nat → Int64 := D.2.2.1.2
abbrev kd_fi (D : kx_D) : Nat → Nat → Int32 := D.2.2.2.1.1
abbrev kd_lo (D : kx_D) : Nat → Nat → Int32 := D.2.2.2.1.2
abbrev kd_rc (D : kx_D) : Nat → Nat := D.2.2.2.2.1.1
abbrev kd_rd (D : kx_D) : Nat → Nat := D.2.2.2.2.1.2.1
abbrev kd_ev (D : kx_D) : Nat → Nat := D.2.2.2.2.1.2.2.1
abbrev kd_fr (D : kx_D) : Nat → Nat := D.2.2.2.2.1.2.2.2
abbrev kd_wi (D : kx_D) : Nat := D.2.2.2.2.2.1.1
abbrev kd_ne (D : kx_D) : Nat := D.2.2.2.2.2.1.2.1
abbrev kd_se (D : kx_D) : Nat := D.2.2.2.2.2.1.2.2
abbrev kd_lg (D : kx_D) : Option kx_w := D.2.2.2.2.2.2.1
abbrev kd_lw (D : kx_D) : Option kx_w := D.2.2.2.2.2.2.2.1
abbrev kd_lp (D : kx_D) : Option kx_w := D.2.2.2.2.2.2.2.2
def kx_up {α : Type} (f : Nat → α) (n : Nat) (x : α) : Nat → α := fun i => if i = n then x else f i
theorem kx_up_s {α : Type} (f : Nat → α) (n : Nat) (x : α) : kx_up f n x n = x := if_pos rfl
theorem kx_up_o {α : Type} {f : Nat → α} {n i : Nat} {x : α} (h : i ≠ n) : kx_up f n x i = f i := if_neg h
def kx_l3 (X : kx_X) (D : kx_D) (s : kx_S) : kx_sl := if kx_fd (kd_dn D) (kd_nd D) (kx_V X s.1) < kd_nd D ∨ kx_fd (kd_cn D) (kd_nc D) (kx_V X s.1) < kd_nc D then kx_no X 3 s.1 (kd_sl D) else kd_sl D
def kx_l4 (X : kx_X) (g : Nat → Int64) (n : Nat) (s : kx_S) (l : kx_sl) : kx_sl := if kx_fd g n (kx_V X s.1) < n then l else kx_no X 4 s.1 l
def kx_f0 (X : kx_X) (g : Nat → Int64) (n : Nat) (s : kx_S) : Nat := if kx_fd g n (kx_V X s.1) < n then kx_fd g n (kx_V X s.1) else 0
def kx_fc (X : kx_X) (s : kx_S) : Nat → Int32 := fun p => nI (kx_N X (s.1 + p))
def kx_d1 (X : kx_X) (s : kx_S) : kx_S := kx_tk X 2 (kx_tk X 256 s)
def kx_td (X : kx_X) (s : kx_S) (D : kx_D) : kx_S × kx_D := if kd_nd D < 6 then (kx_t3 X 4 (kx_d1 X s), (kx_n4 X 0 99 4 (kx_d1 X s) (kx_l3 X D (kx_tk X 256 s)), (kd_nd D + 1, kd_nc D, kd_nr D), (kx_up (kd_dn D) (kd_nd D) (kx_V X (kx_tk X 256 s).1), kd_cn D), (kx_up (kd_fi D) (kd_nd D) (kx_fc X (kx_d1 X s)), kd_lo D), D.2.2.2.2)) else ((s.1, 2), D)
def kx_c1 (X : kx_X) (s : kx_S) : kx_S := kx_tk X 2 (kx_tk X 257 s)
def kx_tc (X : kx_X) (s : kx_S) (D : kx_D) : kx_S × kx_D := if kd_nc D < 5 then (kx_t3 X 4 (kx_c1 X s), (kx_n4 X 0 99 4 (kx_c1 X s) (kx_l3 X D (kx_tk X 257 s)), (kd_nd D, kd_nc D + 1, kd_nr D), (kd_dn D, kx_up (kd_cn D) (kd_nc D) (kx_V X (kx_tk X 257 s).1)), (kd_fi D, kx_up (kd_lo D) (kd_nc D) (kx_fc X (kx_c1 X s))), D.2.2.2.2)) else ((s.1, 2), D)
def kx_r1 (X : kx_X) (s : kx_S) : kx_S := kx_tk X 258 s
def kx_r2 (X : kx_X) (s : kx_S) : kx_S := kx_tk X 2 (kx_r1 X s)
def kx_r3 (X : kx_X) (s : kx_S) : kx_S := kx_tk X 2 (kx_r2 X s)
def kx_r4 (X : kx_X) (s : kx_S) : kx_S := kx_tk X 3 (kx_r3 X s)
def kx_tr (X : kx_X) (s : kx_S) (D : kx_D) : kx_S × kx_D := if kd_nr D < 10 then (kx_tk X 3 (kx_r4 X s), (kx_nu X 0 29 (kx_r4 X s) (kx_nu X 1 30 (kx_r3 X s) (kx_l4 X (kd_dn D) (kd_nd D) (kx_r2 X s) (kx_l4 X (kd_cn D) (kd_nc D) (kx_r1 X s) (kd_sl D)))), (kd_nd D, kd_nc D, kd_nr D + 1), D.2.2.1, D.2.2.2.1, (kx_up (kd_rc D) (kd_nr D) (kx_f0 X (kd_cn D) (kd_nc D) (kx_r1 X s)), kx_up (kd_rd D) (kd_nr D) (kx_f0 X (kd_dn D) (kd_nd D) (kx_r2 X s)), kx_up (kd_ev D) (kd_nr D) (kx_N X (kx_r3 X s).1), kx_up (kd_fr D) (kd_nr D) (kx_N X (kx_r4 X s).1)), D.2.2.2.2.2)) else ((s.1, 2), D)
/-- a setting: its kind, its most -/
def kx_ts (X : kx_X) (d hi : Nat) (s : kx_S) (D : kx_D) : kx_S × kx_D := (kx_tk X 3 (kx_tk X d s), (kx_nu X 0 hi (kx_tk X d s) (kd_sl D), D.2.1, D.2.2.1, D.2.2.2.1, D.2.2.2.2.1, (if d = 262 then kx_N X (kx_tk X d s).1 else kd_wi D, if d = 263 then kx_N X (kx_tk X d s).1 else kd_ne D, if d = 264 then kx_N X (kx_tk X d s).1 else kd_se D), D.2.2.2.2.2.2))
def kx_tl (X : kx_X) (S : kx_sf) (d : Nat) (s : kx_S) (D : kx_D) : kx_S × kx_D := ((kx_lr X S d s).1, (kd_sl D, D.2.1, D.2.2.1, D.2.2.2.1, D.2.2.2.2.1, D.2.2.2.2.2.1, (if d = 259 then some (kx_lr X S d s).2 else kd_lg D, if d = 260 then some (kx_lr X S d s).2 else kd_lw D, if d = 261 then some (kx_lr X S d s).2 else kd_lp D)))
def kx_t1 (X : kx_X) (S : kx_sf) (s : kx_S) (D : kx_D) : kx_S × kx_D :=
  if kx_K X s.1 = 256 then kx_td X s D
  else if kx_K X s.1 = 257 then kx_tc X s D
  else if kx_K X s.1 = 258 then kx_tr X s D
  else if kx_K X s.1 = 259 ∨ kx_K X s.1 = 260 ∨ kx_K X s.1 = 261 then kx_tl X S (kx_K X s.1) s D
  else if kx_K X s.1 = 262 then kx_ts X 262 100 s D
  else if kx_K X s.1 = 263 then kx_ts X 263 396 s D
  else if kx_K X s.1 = 264 then kx_ts X 264 9999 s D
  else ((s.1, 1), D)
def kx_te (X : kx_X) (S : kx_sf) (s : kx_S) (D : kx_D) : kx_S × kx_D := (kx_tk X 59 (kx_t1 X S s D).1, (kx_t1 X S s D).2)
/-! how the class holds it -/
def kx_D1 (D : kx_D) (σ : kf_St) : Prop := σ.1 25 0 = nI (kd_nd D) ∧ σ.1 25 1 = nI (kd_nc D) ∧ σ.1 25 2 = nI (kd_nr D)
def kx_D2 (D : kx_D) (σ : kf_St) : Prop := (∀ d, d < kd_nd D → σ.2 26 d = kd_dn D d) ∧ (∀ c, c < kd_nc D → σ.2 27 c = kd_cn D c)
def kx_D3 (D : kx_D) (σ : kf_St) : Prop := (∀ d, d < kd_nd D → ∀ p, p < 4 → σ.1 28 (4 * d + p) = kd_fi D d p) ∧ (∀ c, c < kd_nc D → ∀ p, p < 4 → σ.1 29 (4 * c + p) = kd_lo D c p)
def kx_D4 (D : kx_D) (σ : kf_St) : Prop := ∀ r, r < kd_nr D → σ.1 30 r = nI (kd_rc D r) ∧ σ.1 31 r = nI (kd_rd D r) ∧ σ.1 32 r = nI (kd_ev D r) ∧ σ.1 33 r = nI (kd_fr D r)
def kx_D5 (D : kx_D) (σ : kf_St) : Prop := σ.1 25 3 = nI (kd_wi D) ∧ σ.1 25 4 = nI (kd_ne D) ∧ σ.1 25 5 = nI (kd_se D)
def kx_ow (d : Nat) (o : Option kx_w) : kx_w := match o with
  | none => ([], [(0, d)])
  | some w => w
def kx_D6 (D : kx_D) (σ : kf_St) : Prop := kx_CW 34 (kx_ow 1 (kd_lg D)) σ ∧ kx_CW 37 (kx_ow 0 (kd_lw D)) σ ∧ kx_CW 40 (kx_ow 1 (kd_lp D)) σ
def kx_DC (D : kx_D) (σ : kf_St) : Prop := kx_SC (kd_sl D) σ ∧ kx_D1 D σ ∧ kx_D2 D σ ∧ kx_D3 D σ ∧ kx_D4 D σ ∧ kx_D5 D σ ∧ kx_D6 D σ
def kx_Db (D : kx_D) : Prop := kd_nd D ≤ 6 ∧ kd_nc D ≤ 5 ∧ kd_nr D ≤ 10
theorem kC_new {X : kx_X} {s : kx_S} {D : kx_D} {σ : kf_St} (h : kx_RC X s σ) (hb : kx_Db D) (h1 : kx_D1 D σ) (h2 : kx_D2 D σ) : ∃ τ, f_X6_readNewName 43 σ = some (kx_V X s.1, τ) ∧ kx_RC X (kx_tk X 2 s) τ ∧ (kx_SC (kd_sl D) σ → kx_SC (kx_l3 X D s) τ) ∧ kx_fr kx_4P kx_n0 σ τ := by
  have t59 : ∀ v, ∀ τ, kx_RC X s τ → ∃ τ', f_X6_readNewName_59 43 v τ = some (v, τ') ∧ kx_RC X (kx_tk X 2 s) τ' ∧ (∀ l, kx_SC l τ → kx_SC l τ') ∧ kx_fr kx_4P kx_n0 τ τ' := by
    intro v τ hτ
    obtain ⟨τ', t1, t2, t3⟩ := kC_take (d := 2) hτ (by decide) (by decide)
    refine ⟨τ', ?_, t2, fun l hl => hl.tk t3, t3.f4⟩
    unfold f_X6_readNewName_59
    rw [show (2 : Int32) = nI 2 from rfl, t1, Option.bind_some]
  have t54 : ∀ v, ∃ τ', f_X6_readNewName_54 43 v σ = some (v, τ') ∧ kx_RC X (kx_tk X 2 s) τ' ∧ (∀ l, kx_SC l σ → kx_SC (kx_no X 3 s.1 l) τ') ∧ kx_fr kx_4P kx_n0 σ τ' := by
    intro v
    obtain ⟨τ1, t1, t2, t3, t4⟩ := kC_note (k := 3) h (by decide)
    obtain ⟨τ2, u1, u2, u3, u4⟩ := t59 v τ1 t2
    refine ⟨τ2, ?_, u2, fun l hl => u3 _ (t3 l hl), (t4.mono (fun _ _ q => q.1) (fun _ _ q => q)).tr u4⟩
    unfold f_X6_readNewName_54
    rw [show (3 : Int32) = nI 3 from rfl, t1, Option.bind_some, u1]
  have e1 := kx_fd_c (v := kx_V X s.1) h2.1
  have e2 := kx_fd_c (v := kx_V X s.1) h2.2
  obtain ⟨b1, b2, -⟩ := hb
  unfold f_X6_readNewName
  rw [kr43_2, h.2.2.2.1, kC_val h, Option.bind_some]
  dsimp only
  rw [kr43_3, kr25_6, kr25_7, h1.1, kC_row (c := 26) (by show _ ≤ 6; exact b1) (by decide), Option.bind_some, e1]
  dsimp only
  unfold kx_l3
  by_cases c1 : kx_fd (kd_dn D) (kd_nd D) (kx_V X s.1) < kd_nd D
  · rw [if_pos c1, if_pos (nI_pos' (by omega)), if_pos (Or.inl c1)]
    obtain ⟨τ, t1, t2, t3, t4⟩ := t54 (kx_V X s.1)
    exact ⟨τ, t1, t2, t3 _, t4⟩
  · rw [if_neg c1, if_neg (by decide), h1.2.1, kC_row (c := 27) (by show _ ≤ 5; exact b2) (by decide), Option.bind_some, e2]
    dsimp only
    by_cases c2 : kx_fd (kd_cn D) (kd_nc D) (kx_V X s.1) < kd_nc D
    · rw [if_pos c2, if_neg (nI_pos (by omega)), if_pos (Or.inr c2)]
      obtain ⟨τ, t1, t2, t3, t4⟩ := t54 (kx_V X s.1)
      exact ⟨τ, t1, t2, t3 _, t4⟩
    · rw [if_neg c2, if_pos (by decide), if_neg (fun q => by rcases q with q | q; exact c1 q; exact c2 q)]
      obtain ⟨τ, t1, t2, t3, t4⟩ := t59 (kx_V X s.1) σ h
      exact ⟨τ, t1, t2, t3 _, t4⟩
theorem kC_kno {X : kx_X} {s : kx_S} {c n : Nat} {g : Nat → Int64} {σ : kf_St} (h : kx_RC X s σ) (hn : n ≤ kf_ln c) (hl : kf_ln c ≤ 100) (h2 : ∀ i, i < n → σ.2 c i = g i) : ∃ τ, f_X6_readKnownName 43 c (nI n) σ = some (nI (kx_f0 X g n s), τ) ∧ kx_RC X (kx_tk X 2 s) τ ∧ (∀ l, kx_SC l σ → kx_SC (kx_l4 X g n s l) τ) ∧ kx_fr kx_4P kx_n0 σ τ := by
  have t26 : ∀ (v : Int32), ∀ τ, kx_RC X s τ → ∃ τ', f_X6_readKnownName_26 43 v τ = some (if 0 ≤ v then v else 0, τ') ∧ kx_RC X (kx_tk X 2 s) τ' ∧ (∀ l, kx_SC l τ → kx_SC l τ') ∧ kx_fr kx_4P kx_n0 τ τ' := by
    intro v τ hτ
    obtain ⟨τ', t1, t2, t3⟩ := kC_take (d := 2) hτ (by decide) (by decide)
    refine ⟨τ', ?_, t2, fun l hl => hl.tk t3, t3.f4⟩
    unfold f_X6_readKnownName_26
    rw [show (2 : Int32) = nI 2 from rfl, t1, Option.bind_some]
    by_cases c : 0 ≤ v
    · rw [if_pos c, if_pos c]
    · rw [if_neg c, if_neg c]
  have e1 := kx_fd_c (v := kx_V X s.1) h2
  unfold f_X6_readKnownName
  rw [kr43_2, h.2.2.2.1, kC_val h, Option.bind_some]
  dsimp only
  rw [kC_row hn hl, Option.bind_some, e1]
  dsimp only
  unfold kx_l4 kx_f0
  by_cases c1 : kx_fd g n (kx_V X s.1) < n
  · rw [if_pos c1, if_pos (nI_pos' (by omega)), if_pos c1]
    obtain ⟨τ, t1, t2, t3, t4⟩ := t26 (nI (kx_fd g n (kx_V X s.1))) σ h
    rw [if_pos (nI_pos' (by omega))] at t1
    refine ⟨τ, t1, t2, fun l hl => ?_, t4⟩
    rw [if_pos c1]
    exact t3 l hl
  · rw [if_neg c1, if_neg (by decide), if_neg c1]
    obtain ⟨τ1, n1, n2, n3, n4⟩ := kC_note (k := 4) h (by decide)
    obtain ⟨τ, t1, t2, t3, t4⟩ := t26 (-1) τ1 n2
    rw [if_neg (by decide)] at t1
    refine ⟨τ, ?_, t2, fun l hl => ?_, (n4.mono (fun _ _ q => q.1) (fun _ _ q => q)).tr t4⟩
    · rw [show (4 : Int32) = nI 4 from rfl, n1, Option.bind_some]
      exact t1
    · rw [if_neg c1]
      exact t3 _ (n3 l hl)
theorem kx_CW.fr {a : Nat} {w : kx_w} {P Q : Nat → Nat → Prop} {σ τ : kf_St} (h : kx_CW a w σ) (c : kx_fr P Q σ τ) (h0 : ∀ b, ¬ P a b) (h1 : ∀ b, ¬ P (a + 1) b) : kx_CW a w τ := by
  obtain ⟨a1, a2, a3⟩ := h
  refine ⟨a1, (c.1 a 0 (h0 0)).trans a2, ?_⟩
  rw [c.row h1]
  exact a3
theorem kx_D6.fr {D : kx_D} {P Q : Nat → Nat → Prop} {σ τ : kf_St} (h : kx_D6 D σ) (c : kx_fr P Q σ τ) (h0 : ∀ a b, 34 ≤ a → a ≤ 42 → ¬ P a b) : kx_D6 D τ := ⟨h.1.fr c (fun b => h0 34 b (by decide) (by decide)) (fun b => h0 35 b (by decide) (by decide)), h.2.1.fr c (fun b => h0 37 b (by decide) (by decide)) (fun b => h0 38 b (by decide) (by decide)), h.2.2.fr c (fun b => h0 40 b (by decide) (by decide)) (fun b => h0 41 b (by decide) (by decide))⟩
theorem kx_D4.fr {D : kx_D} {P Q : Nat → Nat → Prop} {σ τ : kf_St} (h : kx_D4 D σ) (c : kx_fr P Q σ τ) (h0 : ∀ a b, 30 ≤ a → a ≤ 33 → b < kd_nr D → ¬ P a b) : kx_D4 D τ := fun r hr => ⟨(c.1 30 r (h0 30 r (by decide) (by decide) hr)).trans (h r hr).1, (c.1 31 r (h0 31 r (by decide) (by decide) hr)).trans (h r hr).2.1, (c.1 32 r (h0 32 r (by decide) (by decide) hr)).trans (h r hr).2.2.1, (c.1 33 r (h0 33 r (by decide) (by decide) hr)).trans (h r hr).2.2.2⟩
theorem kx_D3.fr {D : kx_D} {P Q : Nat → Nat → Prop} {σ τ : kf_St} (h : kx_D3 D σ) (c : kx_fr P Q σ τ) (h0 : ∀ b, b < 4 * kd_nd D → ¬ P 28 b) (h1 : ∀ b, b < 4 * kd_nc D → ¬ P 29 b) : kx_D3 D τ := ⟨fun d hd p hp => (c.1 28 _ (h0 _ (by omega))).trans (h.1 d hd p hp), fun d hd p hp => (c.1 29 _ (h1 _ (by omega))).trans (h.2 d hd p hp)⟩
theorem kx_D2.fr {D : kx_D} {P Q : Nat → Nat → Prop} {σ τ : kf_St} (h : kx_D2 D σ) (c : kx_fr P Q σ τ) (h0 : ∀ b, b < kd_nd D → ¬ Q 26 b) (h1 : ∀ b, b < kd_nc D → ¬ Q 27 b) : kx_D2 D τ := ⟨fun d hd => (c.2 26 d (h0 d hd)).trans (h.1 d hd), fun d hd => (c.2 27 d (h1 d hd)).trans (h.2 d hd)⟩
theorem kx_D1.fr {D : kx_D} {P Q : Nat → Nat → Prop} {σ τ : kf_St} (h : kx_D1 D σ) (c : kx_fr P Q σ τ) (h0 : ∀ b, b < 3 → ¬ P 25 b) : kx_D1 D τ := ⟨(c.1 25 0 (h0 0 (by decide))).trans h.1, (c.1 25 1 (h0 1 (by decide))).trans h.2.1, (c.1 25 2 (h0 2 (by decide))).trans h.2.2⟩
theorem kx_D5.fr {D : kx_D} {P Q : Nat → Nat → Prop} {σ τ : kf_St} (h : kx_D5 D σ) (c : kx_fr P Q σ τ) (h0 : ∀ b, 3 ≤ b → b < 6 → ¬ P 25 b) : kx_D5 D τ := ⟨(c.1 25 3 (h0 3 (by decide) (by decide))).trans h.1, (c.1 25 4 (h0 4 (by decide) (by decide))).trans h.2.1, (c.1 25 5 (h0 5 (by decide) (by decide))).trans h.2.2⟩
theorem kx_SC.fr {l : kx_sl} {P Q : Nat → Nat → Prop} {σ τ : kf_St} (h : kx_SC l σ) (c : kx_fr P Q σ τ) (h0 : ∀ b, ¬ P 43 b) : kx_SC l τ := ⟨(c.1 43 6 (h0 6)).trans h.1, (c.1 43 7 (h0 7)).trans h.2.1, h.2.2⟩
/-- what a read may change -/
def kx_cFP (a b : Nat) : Prop := 25 ≤ a ∧ a ≤ 43
def kx_cFQ (a b : Nat) : Prop := a = 26 ∨ a = 27
/-- one kind of telling, as the class reads it -/
def kx_kC (X : kx_X) (D : kx_D) (s : kx_S) (F : kf_St → Option kf_St) (r : kx_S × kx_D) : Prop := ∀ σ, kx_RC X s σ → kx_DC D σ → ∃ τ, F σ = some τ ∧ kx_RC X r.1 τ ∧ (r.1.2 = 0 → kx_DC r.2 τ) ∧ kx_fr kx_cFP kx_cFQ σ τ
theorem kx_fr.cF {P Q : Nat → Nat → Prop} {σ τ : kf_St} (c : kx_fr P Q σ τ) (h1 : ∀ a b, P a b → 25 ≤ a ∧ a ≤ 43) (h2 : ∀ a b, Q a b → a = 26 ∨ a = 27) : kx_fr kx_cFP kx_cFQ σ τ := c.mono (fun a b h => h1 a b h) (fun a b h => h2 a b h)
theorem kC_td {X : kx_X} {D : kx_D} {s : kx_S} (hb : kx_Db D) (h0 : s.2 = 0) : kx_kC X D s (f_X6_readDoor 43) (kx_td X s D) := by
  intro σ h ⟨d0, d1, d2, d3, d4, d5, d6⟩
  unfold f_X6_readDoor kx_td
  simp only [kz_lt]
  rw [kr43_3, show σ.1 25 0 = nI (kd_nd D) from by first | exact d1.1 | exact d1.2.1]
  by_cases c : kd_nd D < 6
  · rw [if_pos c, if_pos (show nI (kd_nd D) < 6 from nI_lt (b := 6) c (by decide))]
    obtain ⟨τ1, t1, t2, t3⟩ := kC_take (d := 256) h (by decide) (by decide)
    obtain ⟨τ2, u1, u2, u3, u4⟩ := kC_new (D := D) t2 hb (d1.fr t3 (fun b _ => by unfold kx_tP3; omega)) (d2.fr t3 (fun _ _ q => q) (fun _ _ q => q))
    have cl : kx_fr kx_n0 (fun a b => a = 26 ∧ b = kd_nd D) τ2 (kf_wl τ2 26 (kd_nd D) (kx_V X (kx_tk X 256 s).1)) := kx_fr.rf.wl ⟨rfl, rfl⟩
    obtain ⟨τ3, v1, v2, v3, v4⟩ := kC_face (c := 28) (row := kd_nd D) (by decide) (by first | (show _ ≤ 24; omega) | (show _ ≤ 20; omega)) (by decide) (u2.oth cl (fun _ _ q => q.elim) (fun a b q => by omega))
    have cw : kx_fr (fun a b => a = 25 ∧ b = 0) kx_n0 τ3 (kf_wi τ3 25 0 (nI (kd_nd D) + 1)) := kx_fr.rf.wi ⟨rfl, rfl⟩
    have FR : kx_fr (fun a b => kx_fP 28 (4 * kd_nd D) (4 * kd_nd D + 4) a b ∨ (a = 25 ∧ b = 0)) (fun a b => a = 26 ∧ b = kd_nd D) σ (kf_wi τ3 25 0 (nI (kd_nd D) + 1)) := ((((t3.f4.tr u4).mono (fun a b q => Or.inl (Or.inl q)) (fun _ _ q => q.elim)).tr (cl.mono (fun _ _ q => q.elim) (fun _ _ q => q))).tr (v3.mono (fun _ _ q => Or.inl q) (fun _ _ q => q.elim))).tr (cw.mono (fun _ _ q => Or.inr q) (fun _ _ q => q.elim))
    refine ⟨_, ?_, v2.oth cw (fun a b q => by omega) (fun _ _ q => q.elim), fun q => ?_, FR.cF (fun a b q => by unfold kx_fP at q; omega) (fun a b q => by omega)⟩
    · rw [show f_X6_take 43 256 σ = some τ1 from t1, Option.bind_some, u1, Option.bind_some, show kf_rf 25 6 = 26 from kr25_6, show kf_ix (nI (kd_nd D)) (kf_ln 26) = true from kf_ixN (by first | (show _ < 6; omega) | (show _ < 5; omega)) (by decide), if_pos rfl, nI_clamp (by omega)]
      rw [show kf_rf 25 8 = 28 from kr25_8, v1, Option.bind_some]
    · obtain ⟨w1, w2⟩ := v4 q
      have q1 := (kx_t3_0 4 _ q).1
      have sc1 := u3 (d0.tk t3)
      have sc2 := w2 _ (sc1.fr cl (fun _ q => q))
      have nw : ∀ b, b < 4 * kd_nd D → ¬ (kx_fP 28 (4 * kd_nd D) (4 * kd_nd D + 4) 28 b ∨ (28 = 25 ∧ b = 0)) := fun b hb q => by unfold kx_fP at q; omega
      have NN : (kf_wi τ3 25 0 (nI (kd_nd D) + 1)).2 26 (kd_nd D) = kx_V X (kx_tk X 256 s).1 := by
        rw [kp_wi_2, v3.2 _ _ (fun q => q), kp_wl_same]
      have NO : ∀ d, d < kd_nd D → (kf_wi τ3 25 0 (nI (kd_nd D) + 1)).2 26 d = σ.2 26 d := fun d hd => FR.2 26 d (fun q => by omega)
      have FN : ∀ p, p < 4 → (kf_wi τ3 25 0 (nI (kd_nd D) + 1)).1 28 (4 * kd_nd D + p) = nI (kx_N X ((kx_d1 X s).1 + p)) := fun p hp => by
        rw [kp_wi_row (by decide)]
        exact w1 p hp
      have FO : ∀ d, d < kd_nd D → ∀ p, p < 4 → (kf_wi τ3 25 0 (nI (kd_nd D) + 1)).1 28 (4 * d + p) = σ.1 28 (4 * d + p) := fun d hd p hp => FR.1 28 _ (nw _ (by omega))
      have CN : (kf_wi τ3 25 0 (nI (kd_nd D) + 1)).1 25 0 = nI (kd_nd D + 1) := by rw [kp_wi_same, nI_1]
      refine ⟨sc2.fr cw (fun b q => by omega), ?_, ?_, ?_, fun r hr => d4.fr FR (fun a b _ _ _ q => by unfold kx_fP at q; omega) r hr, d5.fr FR (fun b _ _ q => by unfold kx_fP at q; omega), d6.fr FR (fun a b _ _ q => by unfold kx_fP at q; omega)⟩
      · first
          | exact ⟨CN, (FR.1 25 1 (fun q => by unfold kx_fP at q; omega)).trans d1.2.1, (FR.1 25 2 (fun q => by unfold kx_fP at q; omega)).trans d1.2.2⟩
          | exact ⟨(FR.1 25 0 (fun q => by unfold kx_fP at q; omega)).trans d1.1, CN, (FR.1 25 2 (fun q => by unfold kx_fP at q; omega)).trans d1.2.2⟩
      · have nx : ∀ g : Nat → Int64, (∀ d, d < kd_nd D → σ.2 26 d = g d) → ∀ d, d < kd_nd D + 1 → (kf_wi τ3 25 0 (nI (kd_nd D) + 1)).2 26 d = kx_up g (kd_nd D) (kx_V X (kx_tk X 256 s).1) d := fun g hg d hd => by
          by_cases e : d = kd_nd D
          · rw [e, kx_up_s, NN]
          · rw [kx_up_o e, NO d (by omega), hg d (by omega)]
        first
          | exact ⟨nx _ d2.1, fun c hc => (FR.2 27 c (fun q => by omega)).trans (d2.2 c hc)⟩
          | exact ⟨fun c hc => (FR.2 26 c (fun q => by omega)).trans (d2.1 c hc), nx _ d2.2⟩
      · have nx : ∀ g : Nat → Nat → Int32, (∀ d, d < kd_nd D → ∀ p, p < 4 → σ.1 28 (4 * d + p) = g d p) → ∀ d, d < kd_nd D + 1 → ∀ p, p < 4 → (kf_wi τ3 25 0 (nI (kd_nd D) + 1)).1 28 (4 * d + p) = kx_up g (kd_nd D) (kx_fc X (kx_d1 X s)) d p := fun g hg d hd p hp => by
          by_cases e : d = kd_nd D
          · rw [e, kx_up_s, FN p hp]
            rfl
          · rw [kx_up_o e, FO d (by omega) p hp, hg d (by omega) p hp]
        first
          | exact ⟨nx _ d3.1, fun c hc p hp => (FR.1 29 _ (fun q => by unfold kx_fP at q; omega)).trans (d3.2 c hc p hp)⟩
          | exact ⟨fun c hc p hp => (FR.1 28 _ (fun q => by unfold kx_fP at q; omega)).trans (d3.1 c hc p hp), nx _ d3.2⟩
  · rw [if_neg c, if_neg (show ¬ nI (kd_nd D) < 6 from nI_nlt (b := 6) (by omega) (by have := hb; unfold kx_Db at this; omega))]
    obtain ⟨τ, t1, t2, t3⟩ := kC_fail (k := 2) h (by decide)
    rw [if_pos h0] at t2
    refine ⟨τ, ?_, t2, fun q => absurd q (by show ¬ 2 = 0; decide), t3.cF (fun a b q => by unfold kx_tP3 at q; omega) (fun _ _ q => q.elim)⟩
    rw [show (2 : Int32) = nI 2 from rfl, t1, Option.bind_some]
theorem kC_tc {X : kx_X} {D : kx_D} {s : kx_S} (hb : kx_Db D) (h0 : s.2 = 0) : kx_kC X D s (f_X6_readCaller 43) (kx_tc X s D) := by
  intro σ h ⟨d0, d1, d2, d3, d4, d5, d6⟩
  unfold f_X6_readCaller kx_tc
  simp only [kz_lt]
  rw [kr43_3, show σ.1 25 1 = nI (kd_nc D) from by first | exact d1.1 | exact d1.2.1]
  by_cases c : kd_nc D < 5
  · rw [if_pos c, if_pos (show nI (kd_nc D) < 5 from nI_lt (b := 5) c (by decide))]
    obtain ⟨τ1, t1, t2, t3⟩ := kC_take (d := 257) h (by decide) (by decide)
    obtain ⟨τ2, u1, u2, u3, u4⟩ := kC_new (D := D) t2 hb (d1.fr t3 (fun b _ => by unfold kx_tP3; omega)) (d2.fr t3 (fun _ _ q => q) (fun _ _ q => q))
    have cl : kx_fr kx_n0 (fun a b => a = 27 ∧ b = kd_nc D) τ2 (kf_wl τ2 27 (kd_nc D) (kx_V X (kx_tk X 257 s).1)) := kx_fr.rf.wl ⟨rfl, rfl⟩
    obtain ⟨τ3, v1, v2, v3, v4⟩ := kC_face (c := 29) (row := kd_nc D) (by decide) (by first | (show _ ≤ 24; omega) | (show _ ≤ 20; omega)) (by decide) (u2.oth cl (fun _ _ q => q.elim) (fun a b q => by omega))
    have cw : kx_fr (fun a b => a = 25 ∧ b = 1) kx_n0 τ3 (kf_wi τ3 25 1 (nI (kd_nc D) + 1)) := kx_fr.rf.wi ⟨rfl, rfl⟩
    have FR : kx_fr (fun a b => kx_fP 29 (4 * kd_nc D) (4 * kd_nc D + 4) a b ∨ (a = 25 ∧ b = 1)) (fun a b => a = 27 ∧ b = kd_nc D) σ (kf_wi τ3 25 1 (nI (kd_nc D) + 1)) := ((((t3.f4.tr u4).mono (fun a b q => Or.inl (Or.inl q)) (fun _ _ q => q.elim)).tr (cl.mono (fun _ _ q => q.elim) (fun _ _ q => q))).tr (v3.mono (fun _ _ q => Or.inl q) (fun _ _ q => q.elim))).tr (cw.mono (fun _ _ q => Or.inr q) (fun _ _ q => q.elim))
    refine ⟨_, ?_, v2.oth cw (fun a b q => by omega) (fun _ _ q => q.elim), fun q => ?_, FR.cF (fun a b q => by unfold kx_fP at q; omega) (fun a b q => by omega)⟩
    · rw [show f_X6_take 43 257 σ = some τ1 from t1, Option.bind_some, u1, Option.bind_some, show kf_rf 25 7 = 27 from kr25_7, show kf_ix (nI (kd_nc D)) (kf_ln 27) = true from kf_ixN (by first | (show _ < 6; omega) | (show _ < 5; omega)) (by decide), if_pos rfl, nI_clamp (by omega)]
      rw [show kf_rf 25 9 = 29 from kr25_9, v1, Option.bind_some]
    · obtain ⟨w1, w2⟩ := v4 q
      have q1 := (kx_t3_0 4 _ q).1
      have sc1 := u3 (d0.tk t3)
      have sc2 := w2 _ (sc1.fr cl (fun _ q => q))
      have nw : ∀ b, b < 4 * kd_nc D → ¬ (kx_fP 29 (4 * kd_nc D) (4 * kd_nc D + 4) 29 b ∨ (29 = 25 ∧ b = 1)) := fun b hb q => by unfold kx_fP at q; omega
      have NN : (kf_wi τ3 25 1 (nI (kd_nc D) + 1)).2 27 (kd_nc D) = kx_V X (kx_tk X 257 s).1 := by
        rw [kp_wi_2, v3.2 _ _ (fun q => q), kp_wl_same]
      have NO : ∀ d, d < kd_nc D → (kf_wi τ3 25 1 (nI (kd_nc D) + 1)).2 27 d = σ.2 27 d := fun d hd => FR.2 27 d (fun q => by omega)
      have FN : ∀ p, p < 4 → (kf_wi τ3 25 1 (nI (kd_nc D) + 1)).1 29 (4 * kd_nc D + p) = nI (kx_N X ((kx_c1 X s).1 + p)) := fun p hp => by
        rw [kp_wi_row (by decide)]
        exact w1 p hp
      have FO : ∀ d, d < kd_nc D → ∀ p, p < 4 → (kf_wi τ3 25 1 (nI (kd_nc D) + 1)).1 29 (4 * d + p) = σ.1 29 (4 * d + p) := fun d hd p hp => FR.1 29 _ (nw _ (by omega))
      have CN : (kf_wi τ3 25 1 (nI (kd_nc D) + 1)).1 25 1 = nI (kd_nc D + 1) := by rw [kp_wi_same, nI_1]
      refine ⟨sc2.fr cw (fun b q => by omega), ?_, ?_, ?_, fun r hr => d4.fr FR (fun a b _ _ _ q => by unfold kx_fP at q; omega) r hr, d5.fr FR (fun b _ _ q => by unfold kx_fP at q; omega), d6.fr FR (fun a b _ _ q => by unfold kx_fP at q; omega)⟩
      · first
          | exact ⟨CN, (FR.1 25 1 (fun q => by unfold kx_fP at q; omega)).trans d1.2.1, (FR.1 25 2 (fun q => by unfold kx_fP at q; omega)).trans d1.2.2⟩
          | exact ⟨(FR.1 25 0 (fun q => by unfold kx_fP at q; omega)).trans d1.1, CN, (FR.1 25 2 (fun q => by unfold kx_fP at q; omega)).trans d1.2.2⟩
      · have nx : ∀ g : Nat → Int64, (∀ d, d < kd_nc D → σ.2 27 d = g d) → ∀ d, d < kd_nc D + 1 → (kf_wi τ3 25 1 (nI (kd_nc D) + 1)).2 27 d = kx_up g (kd_nc D) (kx_V X (kx_tk X 257 s).1) d := fun g hg d hd => by
          by_cases e : d = kd_nc D
          · rw [e, kx_up_s, NN]
          · rw [kx_up_o e, NO d (by omega), hg d (by omega)]
        first
          | exact ⟨nx _ d2.1, fun c hc => (FR.2 27 c (fun q => by omega)).trans (d2.2 c hc)⟩
          | exact ⟨fun c hc => (FR.2 26 c (fun q => by omega)).trans (d2.1 c hc), nx _ d2.2⟩
      · have nx : ∀ g : Nat → Nat → Int32, (∀ d, d < kd_nc D → ∀ p, p < 4 → σ.1 29 (4 * d + p) = g d p) → ∀ d, d < kd_nc D + 1 → ∀ p, p < 4 → (kf_wi τ3 25 1 (nI (kd_nc D) + 1)).1 29 (4 * d + p) = kx_up g (kd_nc D) (kx_fc X (kx_c1 X s)) d p := fun g hg d hd p hp => by
          by_cases e : d = kd_nc D
          · rw [e, kx_up_s, FN p hp]
            rfl
          · rw [kx_up_o e, FO d (by omega) p hp, hg d (by omega) p hp]
        first
          | exact ⟨nx _ d3.1, fun c hc p hp => (FR.1 29 _ (fun q => by unfold kx_fP at q; omega)).trans (d3.2 c hc p hp)⟩
          | exact ⟨fun c hc p hp => (FR.1 28 _ (fun q => by unfold kx_fP at q; omega)).trans (d3.1 c hc p hp), nx _ d3.2⟩
  · rw [if_neg c, if_neg (show ¬ nI (kd_nc D) < 5 from nI_nlt (b := 5) (by omega) (by have := hb; unfold kx_Db at this; omega))]
    obtain ⟨τ, t1, t2, t3⟩ := kC_fail (k := 2) h (by decide)
    rw [if_pos h0] at t2
    refine ⟨τ, ?_, t2, fun q => absurd q (by show ¬ 2 = 0; decide), t3.cF (fun a b q => by unfold kx_tP3 at q; omega) (fun _ _ q => q.elim)⟩
    rw [show (2 : Int32) = nI 2 from rfl, t1, Option.bind_some]
theorem kC_trd {X : kx_X} {D : kx_D} {s : kx_S} (hb : kx_Db D) (h0 : s.2 = 0) : kx_kC X D s (f_X6_readRound 43) (kx_tr X s D) := by
  intro σ h ⟨d0, d1, d2, d3, d4, d5, d6⟩
  obtain ⟨b1, b2, b3⟩ := hb
  unfold f_X6_readRound kx_tr
  simp only [kz_lt]
  rw [kr43_3, d1.2.2]
  by_cases c : kd_nr D < 10
  · rw [if_pos c, if_pos (show nI (kd_nr D) < 10 from nI_lt (b := 10) c (by decide))]
    obtain ⟨τ1, t1, t2, t3⟩ := kC_take (d := 258) h (by decide) (by decide)
    have d1a := d1.fr t3 (fun b _ => by unfold kx_tP3; omega)
    have d2a := d2.fr t3 (fun _ _ q => q) (fun _ _ q => q)
    obtain ⟨τ2, u1, u2, u3, u4⟩ := kC_kno (c := 27) (n := kd_nc D) t2 (by show _ ≤ 5; exact b2) (by decide) d2a.2
    have w2 : kx_fr (fun a b => a = 30 ∧ b = kd_nr D) kx_n0 τ2 (kf_wi τ2 30 (kd_nr D) (nI (kx_f0 X (kd_cn D) (kd_nc D) (kx_r1 X s)))) := kx_fr.rf.wi ⟨rfl, rfl⟩
    generalize hx2 : kf_wi τ2 30 (kd_nr D) (nI (kx_f0 X (kd_cn D) (kd_nc D) (kx_r1 X s))) = ρ2 at w2
    have d1b := (d1a.fr u4 (fun b _ => by unfold kx_4P; omega)).fr w2 (fun b _ => by omega)
    have d2b := (d2a.fr u4 (fun _ _ q => q) (fun _ _ q => q)).fr w2 (fun _ _ q => q) (fun _ _ q => q)
    have rc2 : kx_RC X (kx_r2 X s) ρ2 := u2.oth w2 (fun a b q => by omega) (fun _ _ q => q.elim)
    obtain ⟨τ3, v1, v2, v3, v4⟩ := kC_kno (c := 26) (n := kd_nd D) rc2 (by show _ ≤ 6; exact b1) (by decide) d2b.1
    have w3 : kx_fr (fun a b => a = 31 ∧ b = kd_nr D) kx_n0 τ3 (kf_wi τ3 31 (kd_nr D) (nI (kx_f0 X (kd_dn D) (kd_nd D) (kx_r2 X s)))) := kx_fr.rf.wi ⟨rfl, rfl⟩
    generalize hx3 : kf_wi τ3 31 (kd_nr D) (nI (kx_f0 X (kd_dn D) (kd_nd D) (kx_r2 X s))) = ρ3 at w3
    have rc3 : kx_RC X (kx_r3 X s) ρ3 := v2.oth w3 (fun a b q => by omega) (fun _ _ q => q.elim)
    obtain ⟨x4, τ4, x1, x2, x3, x5⟩ := kC_num (lo := 1) (hi := 30) rc3 (by decide)
    have w4 : kx_fr (fun a b => a = 32 ∧ b = kd_nr D) kx_n0 τ4 (kf_wi τ4 32 (kd_nr D) x4) := kx_fr.rf.wi ⟨rfl, rfl⟩
    generalize hx4 : kf_wi τ4 32 (kd_nr D) x4 = ρ4 at w4
    have rc4 : kx_RC X (kx_r4 X s) ρ4 := x2.oth w4 (fun a b q => by omega) (fun _ _ q => q.elim)
    obtain ⟨y4, τ5, y1, y2, y3, y5⟩ := kC_num (lo := 0) (hi := 29) rc4 (by decide)
    have w5 : kx_fr (fun a b => a = 33 ∧ b = kd_nr D) kx_n0 τ5 (kf_wi τ5 33 (kd_nr D) y4) := kx_fr.rf.wi ⟨rfl, rfl⟩
    generalize hx5 : kf_wi τ5 33 (kd_nr D) y4 = ρ5 at w5
    have w6 : kx_fr (fun a b => a = 25 ∧ b = 2) kx_n0 ρ5 (kf_wi ρ5 25 2 (nI (kd_nr D) + 1)) := kx_fr.rf.wi ⟨rfl, rfl⟩
    have PQ : ∀ {α β : kf_St}, kx_fr kx_4P kx_n0 α β → kx_fr (fun a b => a = 43 ∨ (30 ≤ a ∧ a ≤ 33 ∧ b = kd_nr D) ∨ (a = 25 ∧ b = 2)) kx_n0 α β := fun q => q.mono (fun _ _ z => Or.inl z) (fun _ _ z => z)
    have PW : ∀ {α β : kf_St} {k : Nat}, (30 ≤ k ∧ k ≤ 33) → kx_fr (fun a b => a = k ∧ b = kd_nr D) kx_n0 α β → kx_fr (fun a b => a = 43 ∨ (30 ≤ a ∧ a ≤ 33 ∧ b = kd_nr D) ∨ (a = 25 ∧ b = 2)) kx_n0 α β := fun hk q => q.mono (fun _ _ z => Or.inr (Or.inl ⟨by omega, by omega, z.2⟩)) (fun _ _ z => z)
    have F5 := PW (by decide) w5
    have F45 := (PQ y5).tr F5
    have F4 := (PW (by decide) w4).tr F45
    have F35 := (PQ x5).tr F4
    have F3 := (PW (by decide) w3).tr F35
    have F25 := (PQ v4).tr F3
    have F2 := (PW (by decide) w2).tr F25
    have F6 := w6.mono (P' := fun a b => a = 43 ∨ (30 ≤ a ∧ a ≤ 33 ∧ b = kd_nr D) ∨ (a = 25 ∧ b = 2)) (Q' := kx_n0) (fun _ _ z => Or.inr (Or.inr z)) (fun _ _ z => z)
    have FR := ((PQ (t3.f4.tr u4)).tr F2).tr F6
    have IX : ∀ k, kf_ln k = 10 → kf_ix (nI (kd_nr D)) (kf_ln k) = true := fun k hk => by rw [hk]; exact kf_ixN c (by decide)
    refine ⟨_, ?_, (y2.oth w5 (fun a b q => by omega) (fun _ _ q => q.elim)).oth w6 (fun a b q => by omega) (fun _ _ q => q.elim), fun q => ?_, FR.cF (fun a b q => by omega) (fun _ _ q => q.elim)⟩
    · rw [show f_X6_take 43 258 σ = some τ1 from t1, Option.bind_some, kr25_7, d1a.2.1, show f_X6_readKnownName 43 27 (nI (kd_nc D)) τ1 = some (nI (kx_f0 X (kd_cn D) (kd_nc D) (kx_r1 X s)), τ2) from u1, Option.bind_some, kr25_10, if_pos (IX 30 kl30), nI_clamp (by omega)]
      dsimp only
      rw [hx2, kr25_6, d1b.1, v1, Option.bind_some, kr25_11, if_pos (IX 31 kl31)]
      dsimp only
      rw [hx3, show f_X6_readNumber 43 1 30 ρ3 = some (x4, τ4) from x1, Option.bind_some, kr25_12, if_pos (IX 32 kl32)]
      dsimp only
      rw [hx4, show f_X6_readNumber 43 0 29 ρ4 = some (y4, τ5) from y1, Option.bind_some, kr25_13, if_pos (IX 33 kl33)]
      dsimp only
      rw [hx5]
    · obtain ⟨z1, z2⟩ := y3 q
      have q4 := (kx_tk_0 q).1
      obtain ⟨p1, p2⟩ := x3 q4
      have sc := z2 _ ((p2 _ ((v3 _ ((u3 _ (d0.tk t3)).fr w2 (fun b q => by omega))).fr w3 (fun b q => by omega))).fr w4 (fun b q => by omega))
      refine ⟨(sc.fr w5 (fun b q => by omega)).fr w6 (fun b q => by omega), ⟨(FR.1 25 0 (fun q => by omega)).trans d1.1, (FR.1 25 1 (fun q => by omega)).trans d1.2.1, by rw [kp_wi_same, nI_1]⟩, d2.fr FR (fun _ _ q => q) (fun _ _ q => q), d3.fr FR (fun b _ q => by omega) (fun b _ q => by omega), fun r hr => ?_, d5.fr FR (fun b _ _ q => by omega), d6.fr FR (fun a b _ _ q => by omega)⟩
      have hr : r < kd_nr D + 1 := hr
      show _ = nI (kx_up (kd_rc D) (kd_nr D) _ r) ∧ _ = nI (kx_up (kd_rd D) (kd_nr D) _ r) ∧ _ = nI (kx_up (kd_ev D) (kd_nr D) _ r) ∧ _ = nI (kx_up (kd_fr D) (kd_nr D) _ r)
      by_cases e : r = kd_nr D
      · rw [e, kx_up_s, kx_up_s, kx_up_s, kx_up_s]
        refine ⟨?_, ?_, ?_, ?_⟩
        · rw [kp_wi_row (by decide), (w5.1 30 _ (fun q => by omega)), (y5.1 30 _ (fun q => by unfold kx_4P at q; omega)), (w4.1 30 _ (fun q => by omega)), (x5.1 30 _ (fun q => by unfold kx_4P at q; omega)), (w3.1 30 _ (fun q => by omega)), (v4.1 30 _ (fun q => by unfold kx_4P at q; omega)), ← hx2, kp_wi_same]
        · rw [kp_wi_row (by decide), (w5.1 31 _ (fun q => by omega)), (y5.1 31 _ (fun q => by unfold kx_4P at q; omega)), (w4.1 31 _ (fun q => by omega)), (x5.1 31 _ (fun q => by unfold kx_4P at q; omega)), ← hx3, kp_wi_same]
        · rw [kp_wi_row (by decide), (w5.1 32 _ (fun q => by omega)), (y5.1 32 _ (fun q => by unfold kx_4P at q; omega)), ← hx4, kp_wi_same, p1]
        · rw [kp_wi_row (by decide), ← hx5, kp_wi_same, z1]
      · rw [kx_up_o e, kx_up_o e, kx_up_o e, kx_up_o e]
        obtain ⟨g1, g2, g3, g4⟩ := d4 r (by omega)
        exact ⟨(FR.1 30 r (fun q => by omega)).trans g1, (FR.1 31 r (fun q => by omega)).trans g2, (FR.1 32 r (fun q => by omega)).trans g3, (FR.1 33 r (fun q => by omega)).trans g4⟩
  · rw [if_neg c, if_neg (show ¬ nI (kd_nr D) < 10 from nI_nlt (b := 10) (by omega) (by omega))]
    obtain ⟨τ, t1, t2, t3⟩ := kC_fail (k := 2) h (by decide)
    rw [if_pos h0] at t2
    refine ⟨τ, ?_, t2, fun q => absurd q (by show ¬ 2 = 0; decide), t3.cF (fun a b q => by unfold kx_tP3 at q; omega) (fun _ _ q => q.elim)⟩
    rw [show (2 : Int32) = nI 2 from rfl, t1, Option.bind_some]
theorem kC_ts {X : kx_X} {D : kx_D} {s : kx_S} {σ : kf_St} {d hi so : Nat} (hd : 262 ≤ d ∧ d ≤ 264 ∧ so + 259 = d) (hh : hi < 10000) (hK : kx_K X s.1 = d) (h : kx_RC X s σ) (hD : kx_DC D σ) : ∃ v τ, f_X6_readSetting 43 (nI hi) σ = some (v, τ) ∧ kx_RC X (kx_ts X d hi s D).1 (kf_wi τ 25 so v) ∧ ((kx_ts X d hi s D).1.2 = 0 → kx_DC (kx_ts X d hi s D).2 (kf_wi τ 25 so v)) ∧ kx_fr kx_cFP kx_cFQ σ (kf_wi τ 25 so v) := by
  obtain ⟨d0, d1, d2, d3, d4, d5, d6⟩ := hD
  obtain ⟨τ1, t1, t2, t3⟩ := kC_take (d := d) h (by omega) (by omega)
  obtain ⟨v, τ, u1, u2, u3, u4⟩ := kC_num (lo := 0) (hi := hi) t2 ⟨by decide, hh⟩
  have w : kx_fr (fun a b => a = 25 ∧ b = so) kx_n0 τ (kf_wi τ 25 so v) := kx_fr.rf.wi ⟨rfl, rfl⟩
  have FR : kx_fr (fun a b => a = 43 ∨ (a = 25 ∧ b = so)) kx_n0 σ (kf_wi τ 25 so v) := ((t3.f4.tr u4).mono (fun _ _ z => Or.inl z) (fun _ _ z => z)).tr (w.mono (fun _ _ z => Or.inr z) (fun _ _ z => z))
  refine ⟨v, τ, ?_, u2.oth w (fun a b q => by omega) (fun _ _ q => q.elim), fun q => ?_, FR.cF (fun a b q => by omega) (fun _ _ q => q.elim)⟩
  · unfold f_X6_readSetting
    rw [h.2.2.2.2, hK, t1, Option.bind_some, show (0 : Int32) = nI 0 from rfl, u1, Option.bind_some]
  · obtain ⟨z1, z2⟩ := u3 q
    refine ⟨(z2 _ (d0.tk t3)).fr w (fun b q => by omega), d1.fr FR (fun b _ q => by omega), d2.fr FR (fun _ _ q => q) (fun _ _ q => q), d3.fr FR (fun b _ q => by omega) (fun b _ q => by omega), fun r hr => d4.fr FR (fun a b _ _ _ q => by omega) r hr, ?_, d6.fr FR (fun a b _ _ q => by omega)⟩
    show _ = nI (if d = 262 then _ else _) ∧ _ = nI (if d = 263 then _ else _) ∧ _ = nI (if d = 264 then _ else _)
    refine ⟨?_, ?_, ?_⟩
    · by_cases e : d = 262
      · rw [if_pos e, show so = 3 by omega, kp_wi_same, z1]
      · rw [if_neg e, kp_wi_ne (by omega), u4.1 25 3 (by unfold kx_4P; omega), t3.1 25 3 (by unfold kx_tP3; omega)]; exact d5.1
    · by_cases e : d = 263
      · rw [if_pos e, show so = 4 by omega, kp_wi_same, z1]
      · rw [if_neg e, kp_wi_ne (by omega), u4.1 25 4 (by unfold kx_4P; omega), t3.1 25 4 (by unfold kx_tP3; omega)]; exact d5.2.1
    · by_cases e : d = 264
      · rw [if_pos e, show so = 5 by omega, kp_wi_same, z1]
      · rw [if_neg e, kp_wi_ne (by omega), u4.1 25 5 (by unfold kx_4P; omega), t3.1 25 5 (by unfold kx_tP3; omega)]; exact d5.2.2
theorem kx_ld34 : kx_ld 34 := ⟨by decide, by decide, kr34_1, kl35⟩
theorem kx_ld37 : kx_ld 37 := ⟨by decide, by decide, kr37_1, kl38⟩
theorem kx_ld40 : kx_ld 40 := ⟨by decide, by decide, kr40_1, kl41⟩
/-- the class reads sums so -/
def kx_sC (X : kx_X) (S : kx_sf) : Prop := kx_gd X 15 S ∧ ∀ a, kx_ld a → kx_rd X a (f_X6_readSumN 9 43 a 0) S
theorem kC_tl259 {X : kx_X} {S : kx_sf} {D : kx_D} {s : kx_S} (hS : kx_sC X S) (hK : kx_K X s.1 = 259) : kx_kC X D s (f_X6_readLaw 43 34) (kx_tl X S 259 s D) := by
  intro σ h ⟨d0, d1, d2, d3, d4, d5, d6⟩
  have wk : ∃ n, n ≤ 401 ∧ σ.1 34 0 = nI n := by
    first
      | exact ⟨_, d6.1.1, d6.1.2.1⟩
      | exact ⟨_, d6.2.1.1, d6.2.1.2.1⟩
      | exact ⟨_, d6.2.2.1, d6.2.2.2.1⟩
  obtain ⟨τ, t1, t2, t3⟩ := kC_lawr kx_ld34 hS.1 (hS.2 _ kx_ld34) h wk (by decide) hK
  refine ⟨τ, t1, t2.1, fun q => ?_, t3.cF (fun a b q => by unfold kx_lP kx_tP3 at q; omega) (fun _ _ q => q.elim)⟩
  have cw := t2.2.2 q
  refine ⟨⟨(t3.1 43 6 (by unfold kx_lP kx_tP3; omega)).trans d0.1, (t3.1 43 7 (by unfold kx_lP kx_tP3; omega)).trans d0.2.1, d0.2.2⟩, d1.fr t3 (fun b _ => by unfold kx_lP kx_tP3; omega), d2.fr t3 (fun _ _ q => q) (fun _ _ q => q), d3.fr t3 (fun b _ => by unfold kx_lP kx_tP3; omega) (fun b _ => by unfold kx_lP kx_tP3; omega), fun r hr => d4.fr t3 (fun a b _ _ _ => by unfold kx_lP kx_tP3; omega) r hr, d5.fr t3 (fun b _ _ => by unfold kx_lP kx_tP3; omega), ?_⟩
  have ho : ∀ a w, (a = 34 ∨ a = 37 ∨ a = 40) → a ≠ 34 → kx_CW a w σ → kx_CW a w τ := fun a w ha hne hw => hw.fr t3 (fun b => by unfold kx_lP kx_tP3; omega) (fun b => by unfold kx_lP kx_tP3; omega)
  first
    | exact ⟨cw, ho 37 _ (by omega) (by decide) d6.2.1, ho 40 _ (by omega) (by decide) d6.2.2⟩
    | exact ⟨ho 34 _ (by omega) (by decide) d6.1, cw, ho 40 _ (by omega) (by decide) d6.2.2⟩
    | exact ⟨ho 34 _ (by omega) (by decide) d6.1, ho 37 _ (by omega) (by decide) d6.2.1, cw⟩
theorem kC_tl260 {X : kx_X} {S : kx_sf} {D : kx_D} {s : kx_S} (hS : kx_sC X S) (hK : kx_K X s.1 = 260) : kx_kC X D s (f_X6_readLaw 43 37) (kx_tl X S 260 s D) := by
  intro σ h ⟨d0, d1, d2, d3, d4, d5, d6⟩
  have wk : ∃ n, n ≤ 401 ∧ σ.1 37 0 = nI n := by
    first
      | exact ⟨_, d6.1.1, d6.1.2.1⟩
      | exact ⟨_, d6.2.1.1, d6.2.1.2.1⟩
      | exact ⟨_, d6.2.2.1, d6.2.2.2.1⟩
  obtain ⟨τ, t1, t2, t3⟩ := kC_lawr kx_ld37 hS.1 (hS.2 _ kx_ld37) h wk (by decide) hK
  refine ⟨τ, t1, t2.1, fun q => ?_, t3.cF (fun a b q => by unfold kx_lP kx_tP3 at q; omega) (fun _ _ q => q.elim)⟩
  have cw := t2.2.2 q
  refine ⟨⟨(t3.1 43 6 (by unfold kx_lP kx_tP3; omega)).trans d0.1, (t3.1 43 7 (by unfold kx_lP kx_tP3; omega)).trans d0.2.1, d0.2.2⟩, d1.fr t3 (fun b _ => by unfold kx_lP kx_tP3; omega), d2.fr t3 (fun _ _ q => q) (fun _ _ q => q), d3.fr t3 (fun b _ => by unfold kx_lP kx_tP3; omega) (fun b _ => by unfold kx_lP kx_tP3; omega), fun r hr => d4.fr t3 (fun a b _ _ _ => by unfold kx_lP kx_tP3; omega) r hr, d5.fr t3 (fun b _ _ => by unfold kx_lP kx_tP3; omega), ?_⟩
  have ho : ∀ a w, (a = 34 ∨ a = 37 ∨ a = 40) → a ≠ 37 → kx_CW a w σ → kx_CW a w τ := fun a w ha hne hw => hw.fr t3 (fun b => by unfold kx_lP kx_tP3; omega) (fun b => by unfold kx_lP kx_tP3; omega)
  first
    | exact ⟨cw, ho 37 _ (by omega) (by decide) d6.2.1, ho 40 _ (by omega) (by decide) d6.2.2⟩
    | exact ⟨ho 34 _ (by omega) (by decide) d6.1, cw, ho 40 _ (by omega) (by decide) d6.2.2⟩
    | exact ⟨ho 34 _ (by omega) (by decide) d6.1, ho 37 _ (by omega) (by decide) d6.2.1, cw⟩
theorem kC_tl261 {X : kx_X} {S : kx_sf} {D : kx_D} {s : kx_S} (hS : kx_sC X S) (hK : kx_K X s.1 = 261) : kx_kC X D s (f_X6_readLaw 43 40) (kx_tl X S 261 s D) := by
  intro σ h ⟨d0, d1, d2, d3, d4, d5, d6⟩
  have wk : ∃ n, n ≤ 401 ∧ σ.1 40 0 = nI n := by
    first
      | exact ⟨_, d6.1.1, d6.1.2.1⟩
      | exact ⟨_, d6.2.1.1, d6.2.1.2.1⟩
      | exact ⟨_, d6.2.2.1, d6.2.2.2.1⟩
  obtain ⟨τ, t1, t2, t3⟩ := kC_lawr kx_ld40 hS.1 (hS.2 _ kx_ld40) h wk (by decide) hK
  refine ⟨τ, t1, t2.1, fun q => ?_, t3.cF (fun a b q => by unfold kx_lP kx_tP3 at q; omega) (fun _ _ q => q.elim)⟩
  have cw := t2.2.2 q
  refine ⟨⟨(t3.1 43 6 (by unfold kx_lP kx_tP3; omega)).trans d0.1, (t3.1 43 7 (by unfold kx_lP kx_tP3; omega)).trans d0.2.1, d0.2.2⟩, d1.fr t3 (fun b _ => by unfold kx_lP kx_tP3; omega), d2.fr t3 (fun _ _ q => q) (fun _ _ q => q), d3.fr t3 (fun b _ => by unfold kx_lP kx_tP3; omega) (fun b _ => by unfold kx_lP kx_tP3; omega), fun r hr => d4.fr t3 (fun a b _ _ _ => by unfold kx_lP kx_tP3; omega) r hr, d5.fr t3 (fun b _ _ => by unfold kx_lP kx_tP3; omega), ?_⟩
  have ho : ∀ a w, (a = 34 ∨ a = 37 ∨ a = 40) → a ≠ 40 → kx_CW a w σ → kx_CW a w τ := fun a w ha hne hw => hw.fr t3 (fun b => by unfold kx_lP kx_tP3; omega) (fun b => by unfold kx_lP kx_tP3; omega)
  first
    | exact ⟨cw, ho 37 _ (by omega) (by decide) d6.2.1, ho 40 _ (by omega) (by decide) d6.2.2⟩
    | exact ⟨ho 34 _ (by omega) (by decide) d6.1, cw, ho 40 _ (by omega) (by decide) d6.2.2⟩
    | exact ⟨ho 34 _ (by omega) (by decide) d6.1, ho 37 _ (by omega) (by decide) d6.2.1, cw⟩
theorem kx_DC.tk {D : kx_D} {σ τ : kf_St} (h : kx_DC D σ) (t3 : kx_fr kx_tP3 kx_n0 σ τ) : kx_DC D τ := by
  obtain ⟨d0, d1, d2, d3, d4, d5, d6⟩ := h
  exact ⟨d0.tk t3, d1.fr t3 (fun b _ => by unfold kx_tP3; omega), d2.fr t3 (fun _ _ q => q) (fun _ _ q => q), d3.fr t3 (fun b _ => by unfold kx_tP3; omega) (fun b _ => by unfold kx_tP3; omega), fun r hr => d4.fr t3 (fun a b _ _ _ => by unfold kx_tP3; omega) r hr, d5.fr t3 (fun b _ _ => by unfold kx_tP3; omega), d6.fr t3 (fun a b _ _ => by unfold kx_tP3; omega)⟩
theorem kC_tell {X : kx_X} {S : kx_sf} {D : kx_D} {s : kx_S} {σ : kf_St} (hS : kx_sC X S) (hb : kx_Db D) (h0 : s.2 = 0) (h : kx_RC X s σ) (hD : kx_DC D σ) : ∃ τ, f_X6_readTell 43 σ = some τ ∧ kx_RC X (kx_te X S s D).1 τ ∧ ((kx_te X S s D).1.2 = 0 → kx_DC (kx_te X S s D).2 τ) ∧ kx_fr kx_cFP kx_cFQ σ τ := by
  have kl := kx_K_lt X s.1
  have fin : ∀ (r : kx_S × kx_D) τ, kx_RC X r.1 τ → (r.1.2 = 0 → kx_DC r.2 τ) → kx_fr kx_cFP kx_cFQ σ τ → ∃ τ', f_X6_readTell_174 43 τ = some τ' ∧ kx_RC X (kx_tk X 59 r.1, r.2).1 τ' ∧ ((kx_tk X 59 r.1, r.2).1.2 = 0 → kx_DC (kx_tk X 59 r.1, r.2).2 τ') ∧ kx_fr kx_cFP kx_cFQ σ τ' := by
    intro r τ a b c
    obtain ⟨τ', t1, t2, t3⟩ := kC_take (d := 59) a (by decide) (by decide)
    refine ⟨τ', ?_, t2, fun q => (b (kx_tk_0 q).1).tk t3, c.tr (t3.cF (fun a b q => by unfold kx_tP3 at q; omega) (fun _ _ q => q.elim))⟩
    unfold f_X6_readTell_174
    rw [show (59 : Int32) = nI 59 from rfl, t1, Option.bind_some]
  have go : ∀ (F : kf_St → Option kf_St) (r : kx_S × kx_D), kx_kC X D s F r → ∃ τ', ((F σ).bind fun q => f_X6_readTell_174 43 q) = some τ' ∧ kx_RC X (kx_tk X 59 r.1, r.2).1 τ' ∧ ((kx_tk X 59 r.1, r.2).1.2 = 0 → kx_DC (kx_tk X 59 r.1, r.2).2 τ') ∧ kx_fr kx_cFP kx_cFQ σ τ' := by
    intro F r hF
    obtain ⟨τ, t1, t2, t3, t4⟩ := hF σ h hD
    rw [t1, Option.bind_some]
    exact fin r τ t2 t3 t4
  unfold f_X6_readTell kx_te kx_t1
  simp only [kz_lt]
  rw [h.2.2.2.2, kr43_3, kr25_14, kr25_15, kr25_16]
  have ne : ∀ {b : Nat}, b < 300 → ¬ kx_K X s.1 = b → ¬ nI (kx_K X s.1) = nI b := fun hb2 q z => q ((nI_eq (by omega) (by omega)).mp z)
  by_cases c1 : kx_K X s.1 = 256
  · rw [if_pos (show nI (kx_K X s.1) = 256 by rw [c1]; rfl), if_pos c1]
    exact go _ _ (kC_td hb h0)
  rw [if_neg (show ¬ nI (kx_K X s.1) = 256 from ne (b := 256) (by decide) c1), if_neg c1]
  by_cases c2 : kx_K X s.1 = 257
  · rw [if_pos (show nI (kx_K X s.1) = 257 by rw [c2]; rfl), if_pos c2]
    exact go _ _ (kC_tc hb h0)
  rw [if_neg (show ¬ nI (kx_K X s.1) = 257 from ne (b := 257) (by decide) c2), if_neg c2]
  by_cases c3 : kx_K X s.1 = 258
  · rw [if_pos (show nI (kx_K X s.1) = 258 by rw [c3]; rfl), if_pos c3]
    exact go _ _ (kC_trd hb h0)
  rw [if_neg (show ¬ nI (kx_K X s.1) = 258 from ne (b := 258) (by decide) c3), if_neg c3]
  by_cases c4 : kx_K X s.1 = 259
  · rw [if_pos (show nI (kx_K X s.1) = 259 by rw [c4]; rfl), if_pos (show kx_K X s.1 = 259 ∨ kx_K X s.1 = 260 ∨ kx_K X s.1 = 261 from Or.inl c4), c4]
    exact go _ _ (kC_tl259 hS c4)
  rw [if_neg (show ¬ nI (kx_K X s.1) = 259 from ne (b := 259) (by decide) c4)]
  by_cases c5 : kx_K X s.1 = 260
  · rw [if_pos (show nI (kx_K X s.1) = 260 by rw [c5]; rfl), if_pos (show kx_K X s.1 = 259 ∨ kx_K X s.1 = 260 ∨ kx_K X s.1 = 261 from Or.inr (Or.inl c5)), c5]
    exact go _ _ (kC_tl260 hS c5)
  rw [if_neg (show ¬ nI (kx_K X s.1) = 260 from ne (b := 260) (by decide) c5)]
  by_cases c6 : kx_K X s.1 = 261
  · rw [if_pos (show nI (kx_K X s.1) = 261 by rw [c6]; rfl), if_pos (show kx_K X s.1 = 259 ∨ kx_K X s.1 = 260 ∨ kx_K X s.1 = 261 from Or.inr (Or.inr c6)), c6]
    exact go _ _ (kC_tl261 hS c6)
  rw [if_neg (show ¬ nI (kx_K X s.1) = 261 from ne (b := 261) (by decide) c6), if_neg (show ¬ (kx_K X s.1 = 259 ∨ kx_K X s.1 = 260 ∨ kx_K X s.1 = 261) by omega)]
  by_cases c7 : kx_K X s.1 = 262
  · rw [if_pos (show nI (kx_K X s.1) = 262 by rw [c7]; rfl), if_pos c7]
    obtain ⟨v, τ, t1, t2, t3, t4⟩ := kC_ts (d := 262) (hi := 100) (so := 3) (D := D) (by decide) (by decide) c7 h hD
    rw [show f_X6_readSetting 43 100 σ = some (v, τ) from t1, Option.bind_some]
    exact fin _ _ t2 t3 t4
  rw [if_neg (show ¬ nI (kx_K X s.1) = 262 from ne (b := 262) (by decide) c7), if_neg c7]
  by_cases c8 : kx_K X s.1 = 263
  · rw [if_pos (show nI (kx_K X s.1) = 263 by rw [c8]; rfl), if_pos c8]
    obtain ⟨v, τ, t1, t2, t3, t4⟩ := kC_ts (d := 263) (hi := 396) (so := 4) (D := D) (by decide) (by decide) c8 h hD
    rw [show f_X6_readSetting 43 396 σ = some (v, τ) from t1, Option.bind_some]
    exact fin _ _ t2 t3 t4
  rw [if_neg (show ¬ nI (kx_K X s.1) = 263 from ne (b := 263) (by decide) c8), if_neg c8]
  by_cases c9 : kx_K X s.1 = 264
  · rw [if_pos (show nI (kx_K X s.1) = 264 by rw [c9]; rfl), if_pos c9]
    obtain ⟨v, τ, t1, t2, t3, t4⟩ := kC_ts (d := 264) (hi := 9999) (so := 5) (D := D) (by decide) (by decide) c9 h hD
    rw [show f_X6_readSetting 43 9999 σ = some (v, τ) from t1, Option.bind_some]
    exact fin _ _ t2 t3 t4
  rw [if_neg (show ¬ nI (kx_K X s.1) = 264 from ne (b := 264) (by decide) c9), if_neg c9]
  obtain ⟨τ, t1, t2, t3⟩ := kC_fail (k := 1) h (by decide)
  rw [if_pos h0] at t2
  rw [show f_X6_fail 43 1 σ = some τ from t1, Option.bind_some]
  exact fin ((s.1, 1), D) τ t2 (fun q => absurd q (by show ¬ 1 = 0; decide)) (t3.cF (fun a b q => by unfold kx_tP3 at q; omega) (fun _ _ q => q.elim))
