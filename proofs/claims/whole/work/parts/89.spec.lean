/-! ===== pure: what a text tells, as both read it: terms ===== -/
abbrev kx_S : Type := Nat × Nat
abbrev kx_o : Type := Nat × Nat
/-- one token on, if it is that; the second number is the fault -/
def kx_tk (X : kx_X) (d : Nat) (s : kx_S) : kx_S := if s.2 = 0 then (if kx_K X s.1 = d then (if s.1 < 400 then (s.1 + 1, 0) else (s.1, 2)) else (s.1, 1)) else s
theorem kx_tk_f {X : kx_X} {d : Nat} {s : kx_S} (h : s.2 ≠ 0) : kx_tk X d s = s := by unfold kx_tk; rw [if_neg h]
theorem kx_tk_0 {X : kx_X} {d : Nat} {s : kx_S} (h : (kx_tk X d s).2 = 0) : s.2 = 0 ∧ kx_K X s.1 = d ∧ s.1 < 400 ∧ kx_tk X d s = (s.1 + 1, 0) := by
  unfold kx_tk at h ⊢
  by_cases h1 : s.2 = 0
  · rw [if_pos h1] at h ⊢
    by_cases h2 : kx_K X s.1 = d
    · rw [if_pos h2] at h ⊢
      by_cases h3 : s.1 < 400
      · rw [if_pos h3]; exact ⟨h1, h2, h3, rfl⟩
      · rw [if_neg h3] at h; exact absurd (show 2 = 0 from h) (by decide)
    · rw [if_neg h2] at h; exact absurd (show 1 = 0 from h) (by decide)
  · rw [if_neg h1] at h; exact absurd h h1
theorem kx_tk_1 {X : kx_X} {d : Nat} {s : kx_S} (h1 : s.2 = 0) (h2 : kx_K X s.1 = d) (h3 : s.1 < 400) : kx_tk X d s = (s.1 + 1, 0) := by unfold kx_tk; rw [if_pos h1, if_pos h2, if_pos h3]
theorem kx_tk_2 {X : kx_X} {d : Nat} {s : kx_S} (h1 : s.2 = 0) (h2 : kx_K X s.1 = d) (h3 : ¬ s.1 < 400) : kx_tk X d s = (s.1, 2) := by unfold kx_tk; rw [if_pos h1, if_pos h2, if_neg h3]
theorem kx_tk_3 {X : kx_X} {d : Nat} {s : kx_S} (h1 : s.2 = 0) (h2 : ¬ kx_K X s.1 = d) : kx_tk X d s = (s.1, 1) := by unfold kx_tk; rw [if_pos h1, if_neg h2]
/-- where a reader may stand -/
def kx_g (X : kx_X) (s : kx_S) : Prop := kx_ok X s.1 ∧ s.2 ≤ 2
theorem kx_tk_g {X : kx_X} {d : Nat} {s : kx_S} (hd : d ≠ 0 ∧ d ≠ 1) (h : kx_g X s) : kx_g X (kx_tk X d s) := by
  by_cases h1 : s.2 = 0
  · by_cases h2 : kx_K X s.1 = d
    · by_cases h3 : s.1 < 400
      · rw [kx_tk_1 h1 h2 h3]; exact ⟨kx_ok_s h.1 h3 (by rw [h2]; exact hd.1) (by rw [h2]; exact hd.2), Nat.zero_le _⟩
      · rw [kx_tk_2 h1 h2 h3]; exact ⟨h.1, Nat.le_refl _⟩
    · rw [kx_tk_3 h1 h2]; exact ⟨h.1, by show 1 ≤ 2; decide⟩
  · rw [kx_tk_f h1]; exact h
theorem kx_g2 {X : kx_X} {t f : Nat} (h : kx_ok X t) (hf : f ≤ 2) : kx_g X (t, f) := ⟨h, hf⟩
/-! sums, products, units -/
def kx_un (X : kx_X) (rs : Nat → kx_S → kx_S × List kx_o) (n : Nat) (s : kx_S) : kx_S × List kx_o :=
  if s.2 = 0 then
    if kx_K X s.1 = 3 then (kx_tk X 3 s, [(0, kx_N X s.1)])
    else if 268 ≤ kx_K X s.1 ∧ kx_K X s.1 ≤ 276 then (kx_tk X (kx_K X s.1) s, [(1, kx_K X s.1 - 268)])
    else if kx_K X s.1 = 40 then (if n < 6 then (kx_tk X 41 (rs (n + 1) (kx_tk X 40 s)).1, (rs (n + 1) (kx_tk X 40 s)).2) else ((s.1, 2), []))
    else ((s.1, 1), [])
  else (s, [])
def kx_lp (X : kx_X) (a b oa ob : Nat) (u : kx_S → kx_S × List kx_o) : Nat → kx_S × List kx_o → kx_S × List kx_o
  | 0, p => p
  | g + 1, p => if p.1.2 = 0 ∧ (kx_K X p.1.1 = a ∨ kx_K X p.1.1 = b) then kx_lp X a b oa ob u g ((u (kx_tk X (kx_K X p.1.1) p.1)).1, p.2 ++ (u (kx_tk X (kx_K X p.1.1) p.1)).2 ++ [(if kx_K X p.1.1 = a then oa else ob, 0)]) else p
def kx_pr (X : kx_X) (u : kx_S → kx_S × List kx_o) (s : kx_S) : kx_S × List kx_o := kx_lp X 42 47 4 5 u 400 (u s)
def kx_sm (X : kx_X) (u : kx_S → kx_S × List kx_o) (s : kx_S) : kx_S × List kx_o := kx_lp X 43 45 2 3 (kx_pr X u) 400 (kx_pr X u s)
def kx_su (X : kx_X) : Nat → Nat → kx_S → kx_S × List kx_o
  | 0, _, s => (s, [])
  | m + 1, n, s => kx_sm X (kx_un X (kx_su X m) n) s
/-! a list of steps: how high it piles -/
def kx_wf : List kx_o → Nat → Nat → Nat → Prop
  | [], h, _, g => h = g
  | o :: l, h, lim, g => if o.1 < 2 then h + 1 ≤ lim ∧ o.2 < 10000 ∧ (o.1 = 1 → o.2 < 9) ∧ kx_wf l (h + 1) lim g else 2 ≤ h ∧ o.1 ≤ 5 ∧ o.2 = 0 ∧ kx_wf l (h - 1) lim g
theorem kx_wf_app : ∀ (l1 : List kx_o) {l2 : List kx_o} {h lim g1 g2 : Nat}, kx_wf l1 h lim g1 → kx_wf l2 g1 lim g2 → kx_wf (l1 ++ l2) h lim g2
  | [], l2, h, lim, g1, g2, a, b => by
    have a : h = g1 := a
    subst a
    exact b
  | o :: l1, l2, h, lim, g1, g2, a, b => by
    have a : (if o.1 < 2 then h + 1 ≤ lim ∧ o.2 < 10000 ∧ (o.1 = 1 → o.2 < 9) ∧ kx_wf l1 (h + 1) lim g1 else 2 ≤ h ∧ o.1 ≤ 5 ∧ o.2 = 0 ∧ kx_wf l1 (h - 1) lim g1) := a
    show (if o.1 < 2 then h + 1 ≤ lim ∧ o.2 < 10000 ∧ (o.1 = 1 → o.2 < 9) ∧ kx_wf (l1 ++ l2) (h + 1) lim g2 else 2 ≤ h ∧ o.1 ≤ 5 ∧ o.2 = 0 ∧ kx_wf (l1 ++ l2) (h - 1) lim g2)
    by_cases q : o.1 < 2
    · rw [if_pos q] at a ⊢
      exact ⟨a.1, a.2.1, a.2.2.1, kx_wf_app l1 a.2.2.2 b⟩
    · rw [if_neg q] at a ⊢
      exact ⟨a.1, a.2.1, a.2.2.1, kx_wf_app l1 a.2.2.2 b⟩
/-- a reader of such a list, that needs d places -/
def kx_gd (X : kx_X) (d : Nat) (u : kx_S → kx_S × List kx_o) : Prop := ∀ s, kx_g X s → kx_g X (u s).1 ∧ (s.2 ≠ 0 → (u s).1 = s) ∧ ((u s).1.2 = 0 → s.2 = 0 ∧ s.1 < (u s).1.1 ∧ (u s).2.length + s.1 ≤ (u s).1.1 ∧ ∀ h lim, h + d ≤ lim → kx_wf (u s).2 h lim (h + 1))
theorem kx_gd_un {X : kx_X} {d n : Nat} {rs : Nat → kx_S → kx_S × List kx_o} (hr : n < 6 → kx_gd X d (rs (n + 1))) (hd : 1 ≤ d) : kx_gd X d (kx_un X rs n) := by
  intro s hs
  unfold kx_un
  by_cases h0 : s.2 = 0
  · rw [if_pos h0]
    by_cases h1 : kx_K X s.1 = 3
    · rw [if_pos h1]
      refine ⟨kx_tk_g (by decide) hs, fun e => absurd h0 e, fun e => ?_⟩
      obtain ⟨a, b, c, q⟩ := kx_tk_0 e
      refine ⟨h0, by dsimp only; rw [q]; exact Nat.lt_succ_self _, by dsimp only; rw [q]; show 1 + s.1 ≤ s.1 + 1; omega, fun h lim hl => ?_⟩
      show (if (0 : Nat) < 2 then _ else _)
      rw [if_pos (by decide)]
      exact ⟨by omega, (kx_N3 h1).1, fun z => absurd z (by show ¬ (0 : Nat) = 1; decide), rfl⟩
    rw [if_neg h1]
    by_cases h2 : 268 ≤ kx_K X s.1 ∧ kx_K X s.1 ≤ 276
    · rw [if_pos h2]
      refine ⟨kx_tk_g (by omega) hs, fun e => absurd h0 e, fun e => ?_⟩
      obtain ⟨a, b, c, q⟩ := kx_tk_0 e
      refine ⟨h0, by dsimp only; rw [q]; exact Nat.lt_succ_self _, by dsimp only; rw [q]; show 1 + s.1 ≤ s.1 + 1; omega, fun h lim hl => ?_⟩
      show (if (1 : Nat) < 2 then _ else _)
      rw [if_pos (by decide)]
      exact ⟨by omega, by show kx_K X s.1 - 268 < 10000; omega, fun _ => by show kx_K X s.1 - 268 < 9; omega, rfl⟩
    rw [if_neg h2]
    by_cases h3 : kx_K X s.1 = 40
    · rw [if_pos h3]
      by_cases h4 : n < 6
      · rw [if_pos h4]
        have g1 := kx_tk_g (d := 40) (by decide) hs
        obtain ⟨r1, r2, r3⟩ := hr h4 _ g1
        refine ⟨kx_tk_g (by decide) r1, fun e => absurd h0 e, fun e => ?_⟩
        obtain ⟨a, b, c, q⟩ := kx_tk_0 e
        obtain ⟨x1, x2, x3, x4⟩ := r3 a
        obtain ⟨-, -, -, z⟩ := kx_tk_0 x1
        have z1 : (kx_tk X 40 s).1 = s.1 + 1 := by rw [z]
        rw [z1] at x2 x3
        have x2 : s.1 + 1 < (rs (n + 1) (kx_tk X 40 s)).1.1 := x2
        have x3 : (rs (n + 1) (kx_tk X 40 s)).2.length + (s.1 + 1) ≤ (rs (n + 1) (kx_tk X 40 s)).1.1 := x3
        refine ⟨h0, ?_, ?_, x4⟩
        · dsimp only; rw [q]; show s.1 < _ + 1; omega
        · dsimp only; rw [q]; show _ ≤ _ + 1; omega
      · rw [if_neg h4]
        exact ⟨⟨hs.1, Nat.le_refl _⟩, fun e => absurd h0 e, fun e => absurd (show 2 = 0 from e) (by decide)⟩
    rw [if_neg h3]
    exact ⟨⟨hs.1, by show 1 ≤ 2; decide⟩, fun e => absurd h0 e, fun e => absurd (show 1 = 0 from e) (by decide)⟩
  · rw [if_neg h0]
    exact ⟨hs, fun _ => rfl, fun e => absurd e h0⟩
theorem kx_lp_gd {X : kx_X} {d a b oa ob : Nat} {u : kx_S → kx_S × List kx_o} (hu : kx_gd X d u) (ha : a ≠ 0 ∧ a ≠ 1) (hb : b ≠ 0 ∧ b ≠ 1) (ho : 2 ≤ oa ∧ oa ≤ 5 ∧ 2 ≤ ob ∧ ob ≤ 5) (hd : 1 ≤ d) : ∀ g s p, kx_g X s → kx_g X p.1 → (s.2 ≠ 0 → p.1 = s) → (p.1.2 = 0 → s.2 = 0 ∧ s.1 < p.1.1 ∧ p.2.length + s.1 ≤ p.1.1 ∧ ∀ h lim, h + (d + 1) ≤ lim → kx_wf p.2 h lim (h + 1)) → kx_g X (kx_lp X a b oa ob u g p).1 ∧ (s.2 ≠ 0 → (kx_lp X a b oa ob u g p).1 = s) ∧ ((kx_lp X a b oa ob u g p).1.2 = 0 → s.2 = 0 ∧ s.1 < (kx_lp X a b oa ob u g p).1.1 ∧ (kx_lp X a b oa ob u g p).2.length + s.1 ≤ (kx_lp X a b oa ob u g p).1.1 ∧ ∀ h lim, h + (d + 1) ≤ lim → kx_wf (kx_lp X a b oa ob u g p).2 h lim (h + 1)) := by
  intro g
  induction g with
  | zero => intro s p _ h1 h2 h3; exact ⟨h1, h2, h3⟩
  | succ g ih =>
    intro s p hs h1 h2 h3
    rw [show kx_lp X a b oa ob u (g + 1) p = if p.1.2 = 0 ∧ (kx_K X p.1.1 = a ∨ kx_K X p.1.1 = b) then kx_lp X a b oa ob u g ((u (kx_tk X (kx_K X p.1.1) p.1)).1, p.2 ++ (u (kx_tk X (kx_K X p.1.1) p.1)).2 ++ [(if kx_K X p.1.1 = a then oa else ob, 0)]) else p from rfl]
    by_cases c : p.1.2 = 0 ∧ (kx_K X p.1.1 = a ∨ kx_K X p.1.1 = b)
    · rw [if_pos c]
      have kd : kx_K X p.1.1 ≠ 0 ∧ kx_K X p.1.1 ≠ 1 := by rcases c.2 with e | e <;> rw [e] <;> assumption
      have g1 := kx_tk_g (d := kx_K X p.1.1) kd h1
      obtain ⟨r1, r2, r3⟩ := hu _ g1
      obtain ⟨p1, p2, p3, p4⟩ := h3 c.1
      refine ih s _ hs r1 (fun e => absurd p1 e) (fun e => ?_)
      have e : (u (kx_tk X (kx_K X p.1.1) p.1)).1.2 = 0 := e
      obtain ⟨x1, x2, x3, x4⟩ := r3 e
      obtain ⟨-, -, -, z⟩ := kx_tk_0 x1
      have z1 : (kx_tk X (kx_K X p.1.1) p.1).1 = p.1.1 + 1 := by rw [z]
      rw [z1] at x2 x3
      have x2 : p.1.1 + 1 < (u (kx_tk X (kx_K X p.1.1) p.1)).1.1 := x2
      have x3 : (u (kx_tk X (kx_K X p.1.1) p.1)).2.length + (p.1.1 + 1) ≤ (u (kx_tk X (kx_K X p.1.1) p.1)).1.1 := x3
      refine ⟨p1, by dsimp only; omega, ?_, fun h lim hl => ?_⟩
      · dsimp only
        rw [List.length_append, List.length_append]
        show _ + _ + 1 + _ ≤ _
        omega
      · dsimp only
        refine kx_wf_app _ (kx_wf_app _ (p4 h lim hl) (x4 (h + 1) lim (by omega))) ?_
        show (if (if kx_K X p.1.1 = a then oa else ob) < 2 then _ else _)
        have o2 : 2 ≤ (if kx_K X p.1.1 = a then oa else ob) ∧ (if kx_K X p.1.1 = a then oa else ob) ≤ 5 := by
          by_cases q : kx_K X p.1.1 = a
          · rw [if_pos q]; exact ⟨ho.1, ho.2.1⟩
          · rw [if_neg q]; exact ⟨ho.2.2.1, ho.2.2.2⟩
        rw [if_neg (by omega)]
        exact ⟨by omega, o2.2, rfl, by show h + 1 + 1 - 1 = h + 1; omega⟩
    · rw [if_neg c]; exact ⟨h1, h2, h3⟩
theorem kx_gd_mono {X : kx_X} {d e : Nat} {u : kx_S → kx_S × List kx_o} (h : kx_gd X d u) (hd : d ≤ e) : kx_gd X e u := fun s hs => ⟨(h s hs).1, (h s hs).2.1, fun q => ⟨((h s hs).2.2 q).1, ((h s hs).2.2 q).2.1, ((h s hs).2.2 q).2.2.1, fun a b c => ((h s hs).2.2 q).2.2.2 a b (by omega)⟩⟩
theorem kx_gd_pr {X : kx_X} {d : Nat} {u : kx_S → kx_S × List kx_o} (hu : kx_gd X d u) (hd : 1 ≤ d) : kx_gd X (d + 1) (kx_pr X u) := by
  intro s hs
  have h := kx_gd_mono hu (Nat.le_succ d) s hs
  exact kx_lp_gd hu (by decide) (by decide) (by decide) hd 400 s (u s) hs h.1 h.2.1 h.2.2
theorem kx_gd_sm {X : kx_X} {d : Nat} {u : kx_S → kx_S × List kx_o} (hu : kx_gd X d u) (hd : 1 ≤ d) : kx_gd X (d + 2) (kx_sm X u) := by
  intro s hs
  have hp := kx_gd_pr hu hd
  have h := kx_gd_mono hp (Nat.le_succ (d + 1)) s hs
  exact kx_lp_gd hp (by decide) (by decide) (by decide) (by omega) 400 s (kx_pr X u s) hs h.1 h.2.1 h.2.2
theorem kx_gd_su (X : kx_X) : ∀ m n, n ≤ 6 → 6 < m + n → kx_gd X (2 * (6 - n) + 3) (kx_su X m n)
  | 0, n, h1, h2 => by omega
  | m + 1, n, h1, h2 => by
    have hu : kx_gd X (2 * (6 - n) + 1) (kx_un X (kx_su X m) n) := kx_gd_un (fun h => by
      have := kx_gd_su X m (n + 1) (by omega) (by omega)
      rw [show 2 * (6 - (n + 1)) + 3 = 2 * (6 - n) + 1 by omega] at this
      exact this) (by omega)
    have := kx_gd_sm hu (by omega)
    exact this
/-! what a list tells -/
def kx_op (k : Nat) (a b : Int32) : Int32 := if k = 2 then a + b else if k = 3 then a - b else if k = 4 then a * b else a / b
def kx_ev (v : Nat → Int32) : List kx_o → List Int32 → Option (List Int32)
  | [], st => some st
  | o :: l, st => if o.1 = 0 then kx_ev v l (nI o.2 :: st) else if o.1 = 1 then kx_ev v l (v o.2 :: st) else match st with
    | b :: a :: r => if o.1 = 5 ∧ b = 0 then none else kx_ev v l (kx_op o.1 a b :: r)
    | _ => none
def kx_va (v : Nat → Int32) (l : List kx_o) : Option Int32 := (kx_ev v l []).map (fun st => st.headD 0)
abbrev kx_w : Type := List (List kx_o × List kx_o × List kx_o) × List kx_o
def kx_lb (E : List kx_o) (v : Nat → Int32) : List (List kx_o × List kx_o × List kx_o) → Int32
  | [] => (kx_va v E).getD 0
  | b :: bs => match kx_va v b.1, kx_va v b.2.1 with
    | some x, some y => if x < y then (kx_va v b.2.2).getD 0 else kx_lb E v bs
    | _, _ => 0
def kx_lv (w : kx_w) : kp_Lw := fun v => kx_lb w.2 v w.1
/-- a list that leaves one number, in at most fifteen places -/
def kx_1 (l : List kx_o) : Prop := ∀ h lim, h + 15 ≤ lim → kx_wf l h lim (h + 1)
def kx_wok (w : kx_w) : Prop := (∀ b, b ∈ w.1 → kx_1 b.1 ∧ kx_1 b.2.1 ∧ kx_1 b.2.2) ∧ kx_1 w.2
theorem kx_ev_c {v w : Nat → Int32} (e : ∀ i, i < 9 → v i = w i) : ∀ (l : List kx_o) (st : List Int32) {h lim g : Nat}, kx_wf l h lim g → kx_ev v l st = kx_ev w l st
  | [], st, _, _, _, _ => rfl
  | o :: l, st, h, lim, g, q => by
    have q : (if o.1 < 2 then h + 1 ≤ lim ∧ o.2 < 10000 ∧ (o.1 = 1 → o.2 < 9) ∧ kx_wf l (h + 1) lim g else 2 ≤ h ∧ o.1 ≤ 5 ∧ o.2 = 0 ∧ kx_wf l (h - 1) lim g) := q
    unfold kx_ev
    by_cases h0 : o.1 = 0
    · rw [if_pos h0, if_pos h0]
      rw [if_pos (by omega)] at q
      exact kx_ev_c e l _ q.2.2.2
    rw [if_neg h0, if_neg h0]
    by_cases h1 : o.1 = 1
    · rw [if_pos h1, if_pos h1]
      rw [if_pos (by omega)] at q
      rw [e o.2 (q.2.2.1 h1)]
      exact kx_ev_c e l _ q.2.2.2
    rw [if_neg h1, if_neg h1]
    rw [if_neg (by omega)] at q
    match st with
    | [] => rfl
    | [_] => rfl
    | b :: a :: r =>
      dsimp only
      by_cases h5 : o.1 = 5 ∧ b = 0
      · rw [if_pos h5, if_pos h5]
      · rw [if_neg h5, if_neg h5]
        exact kx_ev_c e l _ q.2.2.2
theorem kx_va_c {v w : Nat → Int32} (e : ∀ i, i < 9 → v i = w i) {l : List kx_o} (h : kx_1 l) : kx_va v l = kx_va w l := by
  unfold kx_va
  rw [kx_ev_c e l [] (h 0 15 (Nat.le_refl _))]
theorem kx_lb_c {E : List kx_o} {v u : Nat → Int32} (e : ∀ i, i < 9 → v i = u i) (h2 : kx_1 E) : ∀ (bs : List (List kx_o × List kx_o × List kx_o)), (∀ b, b ∈ bs → kx_1 b.1 ∧ kx_1 b.2.1 ∧ kx_1 b.2.2) → kx_lb E v bs = kx_lb E u bs
  | [], _ => by show (kx_va v E).getD 0 = (kx_va u E).getD 0; rw [kx_va_c e h2]
  | b :: bs, h1 => by
    have hb := h1 b (List.mem_cons_self ..)
    unfold kx_lb
    rw [kx_va_c e hb.1, kx_va_c e hb.2.1, kx_va_c e hb.2.2, kx_lb_c e h2 bs (fun c hc => h1 c (List.mem_cons_of_mem _ hc))]
theorem kx_lv9 {w : kx_w} (hw : kx_wok w) : kp_L9 (kx_lv w) := fun v u e => kx_lb_c e hw.2 w.1 hw.1
/-- the stack behind a list: broken, or as high as told -/
theorem kx_ev_h {v : Nat → Int32} : ∀ (l : List kx_o) (st : List Int32) {lim g : Nat}, kx_wf l st.length lim g → kx_ev v l st = none ∨ ∃ r, kx_ev v l st = some r ∧ r.length = g
  | [], st, lim, g, q => Or.inr ⟨st, rfl, q⟩
  | o :: l, st, lim, g, q => by
    have q : (if o.1 < 2 then st.length + 1 ≤ lim ∧ o.2 < 10000 ∧ (o.1 = 1 → o.2 < 9) ∧ kx_wf l (st.length + 1) lim g else 2 ≤ st.length ∧ o.1 ≤ 5 ∧ o.2 = 0 ∧ kx_wf l (st.length - 1) lim g) := q
    unfold kx_ev
    by_cases h0 : o.1 = 0
    · rw [if_pos h0]
      rw [if_pos (by omega)] at q
      exact kx_ev_h l (nI o.2 :: st) q.2.2.2
    rw [if_neg h0]
    by_cases h1 : o.1 = 1
    · rw [if_pos h1]
      rw [if_pos (by omega)] at q
      exact kx_ev_h l (v o.2 :: st) q.2.2.2
    rw [if_neg h1]
    rw [if_neg (by omega)] at q
    match st, q with
    | [], q => exact absurd q.1 (by decide)
    | [_], q => exact absurd q.1 (by show ¬ 2 ≤ 1; decide)
    | b :: a :: r, q =>
      dsimp only
      by_cases h5 : o.1 = 5 ∧ b = 0
      · rw [if_pos h5]; exact Or.inl rfl
      · rw [if_neg h5]
        exact kx_ev_h l (kx_op o.1 a b :: r) q.2.2.2
/-- a list does the same above what is there already -/
theorem kx_ev_b {v : Nat → Int32} : ∀ (l : List kx_o) (st bt : List Int32) {lim g : Nat}, kx_wf l st.length lim g → kx_ev v l (st ++ bt) = (kx_ev v l st).map (fun r => r ++ bt)
  | [], st, bt, lim, g, q => rfl
  | o :: l, st, bt, lim, g, q => by
    have q : (if o.1 < 2 then st.length + 1 ≤ lim ∧ o.2 < 10000 ∧ (o.1 = 1 → o.2 < 9) ∧ kx_wf l (st.length + 1) lim g else 2 ≤ st.length ∧ o.1 ≤ 5 ∧ o.2 = 0 ∧ kx_wf l (st.length - 1) lim g) := q
    unfold kx_ev
    by_cases h0 : o.1 = 0
    · rw [if_pos h0, if_pos h0]
      rw [if_pos (by omega)] at q
      exact kx_ev_b l (nI o.2 :: st) bt q.2.2.2
    rw [if_neg h0, if_neg h0]
    by_cases h1 : o.1 = 1
    · rw [if_pos h1, if_pos h1]
      rw [if_pos (by omega)] at q
      exact kx_ev_b l (v o.2 :: st) bt q.2.2.2
    rw [if_neg h1, if_neg h1]
    rw [if_neg (by omega)] at q
    match st, q with
    | [], q => exact absurd q.1 (by decide)
    | [_], q => exact absurd q.1 (by show ¬ 2 ≤ 1; decide)
    | b :: a :: r, q =>
      show (if o.1 = 5 ∧ b = 0 then none else kx_ev v l (kx_op o.1 a b :: (r ++ bt))) = (if o.1 = 5 ∧ b = 0 then none else kx_ev v l (kx_op o.1 a b :: r)).map _
      by_cases h5 : o.1 = 5 ∧ b = 0
      · rw [if_pos h5, if_pos h5]; rfl
      · rw [if_neg h5, if_neg h5]
        exact kx_ev_b l (kx_op o.1 a b :: r) bt q.2.2.2
