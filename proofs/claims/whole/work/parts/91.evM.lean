/-! ===== pure: the reference's laws tell what their lists tell ===== -/
def kx_ma (c d : Nat → Int32) : Nat → List kx_o → Prop
  | _, [] => True
  | p, o :: l => c p = nI o.1 ∧ d p = nI o.2 ∧ kx_ma c d (p + 1) l
theorem kx_ma_app (c d : Nat → Int32) : ∀ (l1 : List kx_o) {l2 : List kx_o} {p : Nat}, kx_ma c d p (l1 ++ l2) ↔ kx_ma c d p l1 ∧ kx_ma c d (p + l1.length) l2
  | [], l2, p => ⟨fun h => ⟨True.intro, h⟩, fun h => h.2⟩
  | o :: l1, l2, p => by
    have e : p + (o :: l1).length = p + 1 + l1.length := by rw [List.length_cons]; omega
    rw [e]
    exact ⟨fun h => ⟨⟨h.1, h.2.1, ((kx_ma_app c d l1).mp h.2.2).1⟩, ((kx_ma_app c d l1).mp h.2.2).2⟩, fun h => ⟨h.1.1, h.1.2.1, (kx_ma_app c d l1).mpr ⟨h.1.2.2, h.2⟩⟩⟩
theorem kx_ma_c {c d c' d' : Nat → Int32} : ∀ (l : List kx_o) {p : Nat}, (∀ i, p ≤ i → i < p + l.length → c' i = c i ∧ d' i = d i) → kx_ma c d p l → kx_ma c' d' p l
  | [], p, _, _ => True.intro
  | o :: l, p, h, q => ⟨(h p (Nat.le_refl _) (by rw [List.length_cons]; omega)).1.trans q.1, (h p (Nat.le_refl _) (by rw [List.length_cons]; omega)).2.trans q.2.1, kx_ma_c l (fun i h1 h2 => h i (by omega) (by rw [List.length_cons]; omega)) q.2.2⟩
/-- one branch, the last term, all: up to cn of the codes, up to bn of the branches -/
def kx_mb (σ : kf_St) (lv cn q : Nat) (b : List kx_o × List kx_o × List kx_o) : Prop := ∃ p, 420 * lv ≤ p ∧ p + b.1.length + b.2.1.length + b.2.2.length ≤ cn ∧ σ.1 101 q = 1 ∧ σ.1 102 q = nI p ∧ σ.1 103 q = nI (p + b.1.length) ∧ σ.1 104 q = nI (p + b.1.length + b.2.1.length) ∧ σ.1 105 q = nI (p + b.1.length + b.2.1.length + b.2.2.length) ∧ kx_ma (σ.1 106) (σ.1 107) p b.1 ∧ kx_ma (σ.1 106) (σ.1 107) (p + b.1.length) b.2.1 ∧ kx_ma (σ.1 106) (σ.1 107) (p + b.1.length + b.2.1.length) b.2.2
def kx_me (σ : kf_St) (lv cn q : Nat) (E : List kx_o) : Prop := ∃ p, 420 * lv ≤ p ∧ p + E.length ≤ cn ∧ σ.1 101 q = 0 ∧ σ.1 104 q = nI p ∧ σ.1 105 q = nI (p + E.length) ∧ kx_ma (σ.1 106) (σ.1 107) p E
def kx_ms (σ : kf_St) (lv cn : Nat) : Nat → List (List kx_o × List kx_o × List kx_o) → Prop
  | _, [] => True
  | q, b :: bs => kx_mb σ lv cn q b ∧ kx_ms σ lv cn (q + 1) bs
theorem kx_ms_s (σ : kf_St) (lv cn : Nat) : ∀ (bs : List (List kx_o × List kx_o × List kx_o)) {q : Nat} {b : List kx_o × List kx_o × List kx_o}, kx_ms σ lv cn q (bs ++ [b]) ↔ kx_ms σ lv cn q bs ∧ kx_mb σ lv cn (q + bs.length) b
  | [], q, b => ⟨fun h => ⟨True.intro, h.1⟩, fun h => ⟨h.2, True.intro⟩⟩
  | c :: bs, q, b => by
    have e : q + (c :: bs).length = q + 1 + bs.length := by rw [List.length_cons]; omega
    rw [e]
    exact ⟨fun h => ⟨⟨h.1, ((kx_ms_s σ lv cn bs).mp h.2).1⟩, ((kx_ms_s σ lv cn bs).mp h.2).2⟩, fun h => ⟨h.1.1, (kx_ms_s σ lv cn bs).mpr ⟨h.1.2, h.2⟩⟩⟩
/-- alike up to there -/
def kx_ab (lv cn bn : Nat) (σ τ : kf_St) : Prop := (∀ r, 101 ≤ r → r ≤ 105 → ∀ j, 130 * lv ≤ j → j < bn → τ.1 r j = σ.1 r j) ∧ (∀ r, r = 106 ∨ r = 107 → ∀ j, 420 * lv ≤ j → j < cn → τ.1 r j = σ.1 r j)
theorem kx_ab.tr {lv cn bn : Nat} {a b c : kf_St} (h : kx_ab lv cn bn a b) (h2 : kx_ab lv cn bn b c) : kx_ab lv cn bn a c := ⟨fun r h3 h4 j x y => (h2.1 r h3 h4 j x y).trans (h.1 r h3 h4 j x y), fun r hr j x y => (h2.2 r hr j x y).trans (h.2 r hr j x y)⟩
theorem kp_ag.ab {lv cn bn : Nat} {σ τ : kf_St} (h : kp_ag lv σ τ) (hc : cn ≤ 420 * lv + 420) (hb : bn ≤ 130 * lv + 130) : kx_ab lv cn bn σ τ := ⟨fun r a b j x y => h.2.1 r a b j x (by omega), fun r hr j x y => h.2.2 r hr j x (by omega)⟩
theorem kx_mb_ag {σ τ : kf_St} {lv cn bn q : Nat} {b : List kx_o × List kx_o × List kx_o} (hq : 130 * lv ≤ q ∧ q < bn) (c : kx_ab lv cn bn σ τ) (h : kx_mb σ lv cn q b) : kx_mb τ lv cn q b := by
  obtain ⟨p, h1, h2, h3, h4, h5, h6, h7, h8, h9, h10⟩ := h
  have e : ∀ i, 420 * lv ≤ i → i < cn → τ.1 106 i = σ.1 106 i ∧ τ.1 107 i = σ.1 107 i := fun i a b => ⟨c.2 106 (by omega) i a b, c.2 107 (by omega) i a b⟩
  exact ⟨p, h1, h2, (c.1 101 (by omega) (by omega) q hq.1 hq.2).trans h3, (c.1 102 (by omega) (by omega) q hq.1 hq.2).trans h4, (c.1 103 (by omega) (by omega) q hq.1 hq.2).trans h5, (c.1 104 (by omega) (by omega) q hq.1 hq.2).trans h6, (c.1 105 (by omega) (by omega) q hq.1 hq.2).trans h7, kx_ma_c _ (fun i a b => e i (by omega) (by omega)) h8, kx_ma_c _ (fun i a b => e i (by omega) (by omega)) h9, kx_ma_c _ (fun i a b => e i (by omega) (by omega)) h10⟩
theorem kx_me_ag {σ τ : kf_St} {lv cn bn q : Nat} {E : List kx_o} (hq : 130 * lv ≤ q ∧ q < bn) (c : kx_ab lv cn bn σ τ) (h : kx_me σ lv cn q E) : kx_me τ lv cn q E := by
  obtain ⟨p, h1, h2, h3, h6, h7, h8⟩ := h
  have e : ∀ i, 420 * lv ≤ i → i < cn → τ.1 106 i = σ.1 106 i ∧ τ.1 107 i = σ.1 107 i := fun i a b => ⟨c.2 106 (by omega) i a b, c.2 107 (by omega) i a b⟩
  exact ⟨p, h1, h2, (c.1 101 (by omega) (by omega) q hq.1 hq.2).trans h3, (c.1 104 (by omega) (by omega) q hq.1 hq.2).trans h6, (c.1 105 (by omega) (by omega) q hq.1 hq.2).trans h7, kx_ma_c _ (fun i a b => e i (by omega) (by omega)) h8⟩
theorem kx_ms_ag {σ τ : kf_St} {lv cn bn : Nat} (c : kx_ab lv cn bn σ τ) : ∀ (bs : List (List kx_o × List kx_o × List kx_o)) {q : Nat}, 130 * lv ≤ q → q + bs.length ≤ bn → kx_ms σ lv cn q bs → kx_ms τ lv cn q bs
  | [], q, _, _, _ => True.intro
  | b :: bs, q, h1, h2, h => by
    rw [List.length_cons] at h2
    exact ⟨kx_mb_ag ⟨h1, by omega⟩ c h.1, kx_ms_ag c bs (by omega) (by omega) h.2⟩
theorem kx_mb_le {σ : kf_St} {lv cn cn' q : Nat} {b : List kx_o × List kx_o × List kx_o} (hc : cn ≤ cn') (h : kx_mb σ lv cn q b) : kx_mb σ lv cn' q b := by
  obtain ⟨p, h1, h2, h3⟩ := h
  exact ⟨p, h1, by omega, h3⟩
theorem kx_me_le {σ : kf_St} {lv cn cn' q : Nat} {E : List kx_o} (hc : cn ≤ cn') (h : kx_me σ lv cn q E) : kx_me σ lv cn' q E := by
  obtain ⟨p, h1, h2, h3⟩ := h
  exact ⟨p, h1, by omega, h3⟩
theorem kx_ms_le {σ : kf_St} {lv cn cn' : Nat} (hc : cn ≤ cn') : ∀ (bs : List (List kx_o × List kx_o × List kx_o)) {q : Nat}, kx_ms σ lv cn q bs → kx_ms σ lv cn' q bs
  | [], _, _ => True.intro
  | _ :: bs, _, h => ⟨kx_mb_le hc h.1, kx_ms_le hc bs h.2⟩
/-- the reference's law k of a side has these lists -/
def kx_MW (k : Nat) (w : kx_w) (lv cn bn : Nat) (σ : kf_St) : Prop := ∃ q, 130 * lv ≤ q ∧ q + w.1.length < bn ∧ σ.1 99 (3 * lv + k) = nI q ∧ σ.1 100 (3 * lv + k) = nI (q + w.1.length + 1) ∧ kx_ms σ lv cn q w.1 ∧ kx_me σ lv cn (q + w.1.length) w.2
def kx_MO (k : Nat) (o : Option kx_w) (lv cn bn : Nat) (σ : kf_St) : Prop := match o with
  | none => σ.1 99 (3 * lv + k) = 0 ∧ σ.1 100 (3 * lv + k) = 0
  | some w => kx_MW k w lv cn bn σ
theorem kx_MO_ag {k : Nat} {o : Option kx_w} {lv cn bn : Nat} {σ τ : kf_St} (e9 : τ.1 99 (3 * lv + k) = σ.1 99 (3 * lv + k)) (e0 : τ.1 100 (3 * lv + k) = σ.1 100 (3 * lv + k)) (c : kx_ab lv cn bn σ τ) (h : kx_MO k o lv cn bn σ) : kx_MO k o lv cn bn τ := by
  match o, h with
  | none, h => exact ⟨e9.trans h.1, e0.trans h.2⟩
  | some w, h =>
    obtain ⟨q, h1, h2, h3, h4, h5, h6⟩ := h
    exact ⟨q, h1, h2, e9.trans h3, e0.trans h4, kx_ms_ag c _ h1 (by omega) h5, kx_me_ag ⟨by omega, h2⟩ c h6⟩
theorem kx_MO_le {k : Nat} {o : Option kx_w} {lv cn bn cn' bn' : Nat} {σ : kf_St} (hc : cn ≤ cn') (hb : bn ≤ bn') (h : kx_MO k o lv cn bn σ) : kx_MO k o lv cn' bn' σ := by
  match o, h with
  | none, h => exact h
  | some w, h =>
    obtain ⟨q, h1, h2, h3, h4, h5, h6⟩ := h
    exact ⟨q, h1, by omega, h3, h4, kx_ms_le hc _ h5, kx_me_le hc h6⟩
theorem kM_run {e : Nat} (he : e ≤ 840) : ∀ (l : List kx_o) (st : List Int32) (p f g : Nat) (σ : kf_St), kx_ma (σ.1 106) (σ.1 107) p l → p + l.length ≤ e → kx_wf l st.length 20 g → st.length ≤ 20 → kx_sk (σ.1 110) st → (kx_ev (σ.1 109) l st = none → ∃ τ, f_X12_termOf_5 (f + l.length) 77 (nI e) (nI st.length) (nI p) σ = some (0, τ) ∧ kp_chM (fun k => k = 110) (fun j => j = 50) σ τ ∧ τ.1 77 50 = 1) ∧ (∀ r, kx_ev (σ.1 109) l st = some r → ∃ τ, f_X12_termOf_5 (f + l.length) 77 (nI e) (nI st.length) (nI p) σ = f_X12_termOf_5 f 77 (nI e) (nI r.length) (nI (p + l.length)) τ ∧ kp_chM (fun k => k = 110) (fun _ => False) σ τ ∧ kx_sk (τ.1 110) r)
  | [], st, p, f, g, σ, hc, hp, hw, hs, hk => by
    refine ⟨fun e => (by cases e), fun r e => ?_⟩
    have e : some st = some r := e
    cases e
    exact ⟨σ, rfl, kp_chM.rf, hk⟩
  | o :: l, st, p, f, g, σ, hc, hp, hw, hs, hk => by
    obtain ⟨k, v⟩ := o
    have hw : (if k < 2 then st.length + 1 ≤ 20 ∧ v < 10000 ∧ (k = 1 → v < 9) ∧ kx_wf l (st.length + 1) 20 g else 2 ≤ st.length ∧ k ≤ 5 ∧ v = 0 ∧ kx_wf l (st.length - 1) 20 g) := hw
    have c1 : σ.1 106 p = nI k := hc.1
    have c2 : σ.1 107 p = nI v := hc.2.1
    have c3 := hc.2.2
    have hp : p + (l.length + 1) ≤ e := hp
    have l106 : kf_ln 106 = 840 := kl106
    have l107 : kf_ln 107 = 840 := kl107
    have l110 : kf_ln 110 = 400 := kl110
    have l109 : kf_ln 109 = 9 := kl109
    have r44 : kf_rf 77 44 = 106 := kr77_44
    have r45 : kf_rf 77 45 = 107 := kr77_45
    have r49 : kf_rf 77 49 = 110 := kr77_49
    have r48 : kf_rf 77 48 = 109 := kr77_48
    have eS : f_X12_termOf_5 (f + ((k, v) :: l).length) 77 (nI e) (nI st.length) (nI p) σ = f_X12_termOf_5_s (f_X12_termOf_5 (f + l.length)) 77 (nI e) (nI st.length) (nI p) σ := rfl
    rw [eS, show p + ((k, v) :: l).length = p + 1 + l.length by rw [List.length_cons]; omega]
    by_cases k2 : k < 2
    · rw [if_pos k2] at hw
      obtain ⟨w1, w2, w3, w4⟩ := hw
      have n2 : ¬ (2 : Int32) ≤ nI k := nI_ge (a := k) (b := 2) (by omega) (by omega)
      have main : ∃ x, kx_ev (σ.1 109) ((k, v) :: l) st = kx_ev (σ.1 109) l (x :: st) ∧ f_X12_termOf_5_s (f_X12_termOf_5 (f + l.length)) 77 (nI e) (nI st.length) (nI p) σ = f_X12_termOf_5 (f + l.length) 77 (nI e) (nI (st.length + 1)) (nI (p + 1)) (kf_wi σ 110 st.length x) := by
        by_cases k0 : k = 0
        · refine ⟨nI v, by rw [k0]; rfl, ?_⟩
          unfold f_X12_termOf_5_s f_X12_termOf_58 f_X12_termOf_159
          simp only [kz_lt]
          rw [if_neg (nI_ge (by omega) (by omega)), r44, l106, if_pos (kf_ixN (by omega) (by decide)), nI_clamp (by omega), c1, if_neg n2, k0, if_pos (show nI 0 = (0 : Int32) from rfl), r45, l107, if_pos (kf_ixN (by omega) (by decide)), r49, l110, if_pos (kf_ixN (by omega) (by decide)), nI_clamp (by omega), c2, nI_1, nI_1]
        · have k1 : k = 1 := by omega
          have v9 := w3 k1
          refine ⟨σ.1 109 v, by rw [k1]; rfl, ?_⟩
          unfold f_X12_termOf_5_s f_X12_termOf_58 f_X12_termOf_159
          simp only [kz_lt]
          rw [if_neg (nI_ge (by omega) (by omega)), r44, l106, if_pos (kf_ixN (by omega) (by decide)), nI_clamp (by omega), c1, if_neg n2, k1, if_neg (by decide), r45, l107, if_pos (kf_ixN (by omega) (by decide)), c2, r48, l109, if_pos (kf_ixN (by omega) (by decide)), r49, l110, if_pos (kf_ixN (by omega) (by decide)), nI_clamp (by omega), nI_clamp (by omega), nI_1, nI_1]
      obtain ⟨x, m1, m2⟩ := main
      rw [m1, m2]
      have ch : kp_chM (fun k => k = 110) (fun _ => False) σ (kf_wi σ 110 st.length x) := kp_chM.rf.wi rfl (by decide)
      have q := kM_run he l (x :: st) (p + 1) f g (kf_wi σ 110 st.length x) (kx_ma_c l (fun j _ _ => ⟨kp_wi_row (by decide) j, kp_wi_row (by decide) j⟩) c3) (by omega) w4 w1 ⟨kp_wi_same _ _ _ _, kx_sk_c st (fun j hj => kp_wi_col (by omega) _) hk⟩
      rw [show (kf_wi σ 110 st.length x).1 109 = σ.1 109 from funext (fun j => kp_wi_row (by decide) j)] at q
      refine ⟨fun e => ?_, fun r e => ?_⟩
      · obtain ⟨τ, t1, t2, t3⟩ := q.1 e
        exact ⟨τ, t1, (ch.mono (fun _ h => h) (fun _ h => h.elim)).tr t2, t3⟩
      · obtain ⟨τ, t1, t2, t3⟩ := q.2 r e
        exact ⟨τ, t1, ch.tr t2, t3⟩
    · rw [if_neg k2] at hw
      obtain ⟨w1, w2, w3, w4⟩ := hw
      clear eS
      rcases st with _ | ⟨y, _ | ⟨x, r⟩⟩
      · exact absurd w1 (by decide)
      · exact absurd w1 (by show ¬ 2 ≤ 1; decide)
      · have w4 : kx_wf l (r.length + 1) 20 g := w4
        have ky : σ.1 110 (r.length + 1) = y := hk.1
        have kx : σ.1 110 r.length = x := hk.2.1
        have hs : r.length + 1 + 1 ≤ 20 := hs
        have n2 : (2 : Int32) ≤ nI k := nI_le (a := 2) (b := k) (by omega) (by omega)
        have el : kx_ev (σ.1 109) ((k, v) :: l) (y :: x :: r) = if k = 5 ∧ y = 0 then none else kx_ev (σ.1 109) l (kx_op k x y :: r) := by
          show (if k = 0 then _ else if k = 1 then _ else _) = _
          rw [if_neg (by omega), if_neg (by omega)]
        rw [el, show (y :: x :: r).length = r.length + 2 from rfl]
        have head : ∀ z : Option (Int32 × kf_St), (if k = 5 ∧ y = 0 then some (0, kf_wi σ 77 50 1) else f_X12_termOf_104 (f_X12_termOf_5 (f + l.length)) 77 (nI e) (nI (r.length + 1)) (nI p) (nI k) x y σ) = z → f_X12_termOf_5_s (f_X12_termOf_5 (f + l.length)) 77 (nI e) (nI (r.length + 2)) (nI p) σ = z := by
          intro z hz
          rw [← hz]
          unfold f_X12_termOf_5_s
          simp only [kz_lt]
          rw [if_neg (nI_ge (by omega) (by omega)), r44, l106, if_pos (kf_ixN (by omega) (by decide)), nI_clamp (by omega), c1, if_pos n2, kx_m1, kx_s1, r49, l110, if_pos (kf_ixN (by omega) (by decide)), if_pos (kf_ixN (by omega) (by decide)), nI_clamp (by omega), nI_clamp (by omega), kx, ky]
          by_cases h5 : k = 5
          · rw [if_pos (show nI k = 5 by rw [h5]; rfl)]
            by_cases h0 : y = 0
            · rw [if_pos h0, if_pos ⟨h5, h0⟩]
            · rw [if_neg h0, if_neg (fun e => h0 e.2)]
          · rw [if_neg (show ¬ nI k = 5 from fun e => h5 ((nI_eq (b := 5) (by omega) (by decide)).mp e)), if_neg (fun e => h5 e.1)]
        by_cases h5 : k = 5 ∧ y = 0
        · rw [if_pos h5]
          refine ⟨fun _ => ⟨kf_wi σ 77 50 1, head _ (if_pos h5), kp_chM.rf.ws rfl, kp_wi_same _ _ _ _⟩, fun r e => (by cases e)⟩
        · rw [if_neg h5]
          have st1 : f_X12_termOf_5_s (f_X12_termOf_5 (f + l.length)) 77 (nI e) (nI (r.length + 2)) (nI p) σ = f_X12_termOf_5 (f + l.length) 77 (nI e) (nI (r.length + 1)) (nI (p + 1)) (kf_wi σ 110 r.length (kx_op k x y)) := by
            refine head _ ?_
            rw [if_neg h5]
            unfold f_X12_termOf_104 f_X12_termOf_158 f_X12_termOf_159 kx_op
            simp only [kz_lt]
            rw [kx_s1, r49, l110, nI_clamp (by omega), nI_1]
            simp only [if_pos (show kf_ix (nI r.length) 400 = true from kf_ixN (by omega) (by decide))]
            by_cases q2 : k = 2
            · rw [if_pos (show nI k = 2 by rw [q2]; rfl), if_pos q2]
            rw [if_neg (show ¬ nI k = 2 from fun e => q2 ((nI_eq (b := 2) (by omega) (by decide)).mp e)), if_neg q2]
            by_cases q3 : k = 3
            · rw [if_pos (show nI k = 3 by rw [q3]; rfl), if_pos q3]
            rw [if_neg (show ¬ nI k = 3 from fun e => q3 ((nI_eq (b := 3) (by omega) (by decide)).mp e)), if_neg q3]
            by_cases q4 : k = 4
            · rw [if_pos (show nI k = 4 by rw [q4]; rfl), if_pos q4]
            rw [if_neg (show ¬ nI k = 4 from fun e => q4 ((nI_eq (b := 4) (by omega) (by decide)).mp e)), if_neg q4, if_neg (fun e => h5 ⟨by omega, e⟩)]
          rw [st1]
          have ch : kp_chM (fun k => k = 110) (fun _ => False) σ (kf_wi σ 110 r.length (kx_op k x y)) := kp_chM.rf.wi rfl (by decide)
          have q := kM_run he l (kx_op k x y :: r) (p + 1) f g (kf_wi σ 110 r.length (kx_op k x y)) (kx_ma_c l (fun j _ _ => ⟨kp_wi_row (by decide) j, kp_wi_row (by decide) j⟩) c3) (by omega) w4 (by show r.length + 1 ≤ 20; omega) ⟨kp_wi_same _ _ _ _, kx_sk_c r (fun j hj => kp_wi_col (by omega) _) hk.2.2⟩
          rw [show (kf_wi σ 110 r.length (kx_op k x y)).1 109 = σ.1 109 from funext (fun j => kp_wi_row (by decide) j)] at q
          refine ⟨fun e => ?_, fun r' e => ?_⟩
          · obtain ⟨τ, t1, t2, t3⟩ := q.1 e
            exact ⟨τ, t1, (ch.mono (fun _ h => h) (fun _ h => h.elim)).tr t2, t3⟩
          · obtain ⟨τ, t1, t2, t3⟩ := q.2 r' e
            exact ⟨τ, t1, ch.tr t2, t3⟩
theorem kM_ter {l : List kx_o} {p : Nat} {σ : kf_St} (hl : kx_1 l) (hc : kx_ma (σ.1 106) (σ.1 107) p l) (hp : p + l.length ≤ 840) : (kx_va (σ.1 109) l = none ∧ ∃ τ, f_X12_termOf 77 (nI p) (nI (p + l.length)) σ = some (0, τ) ∧ kp_chM (fun k => k = 110) (fun j => j = 50) σ τ ∧ τ.1 77 50 = 1) ∨ (∃ x, kx_va (σ.1 109) l = some x ∧ ∃ τ, f_X12_termOf 77 (nI p) (nI (p + l.length)) σ = some (x, τ) ∧ kp_chM (fun k => k = 110) (fun _ => False) σ τ) := by
  have w := hl 0 20 (by omega)
  have kF : 1000 ≤ kf_F := by decide
  have q := kM_run hp l [] p (kf_F - l.length) 1 σ hc (Nat.le_refl _) w (by decide) True.intro
  rw [show kf_F - l.length + l.length = kf_F by omega] at q
  unfold kx_va f_X12_termOf
  rcases kx_ev_h (v := σ.1 109) l [] w with e | ⟨r, e, hr⟩
  · rw [e]
    exact Or.inl ⟨rfl, q.1 e⟩
  · obtain ⟨τ, t1, t2, t3⟩ := q.2 r e
    match r, hr, e, t1, t3 with
    | [z], _, e, t1, t3 =>
      rw [e]
      refine Or.inr ⟨z, rfl, τ, t1.trans ?_, t2⟩
      have z0 : τ.1 110 0 = z := t3.1
      rw [show kf_F - l.length = (kf_F - l.length - 1) + 1 by omega]
      show f_X12_termOf_5_s _ 77 _ _ _ τ = _
      unfold f_X12_termOf_5_s
      rw [if_pos (nI_le (Nat.le_refl _) (by omega)), kr77_49, if_pos (by decide), show Int32.toNatClampNeg 0 = 0 from rfl, z0]
theorem kM_119 {lv q : Nat} {E : List kx_o} {σ : kf_St} {p : Nat} (hE : kx_1 E) (hl : lv < 2) (hq : q < 130 * lv + 130) (h2 : p + E.length ≤ 840) (h6 : σ.1 104 q = nI p) (h7 : σ.1 105 q = nI (p + E.length)) (h8 : kx_ma (σ.1 106) (σ.1 107) p E) (h50 : σ.1 77 50 = 0) : ∃ τ, f_X12_lawTells_119 77 (nI q) σ = some ((kx_va (σ.1 109) E).getD 0, τ) ∧ kp_chM (fun k => k = 110) (fun j => j = 50) σ τ := by
  unfold f_X12_lawTells_119
  rw [kr77_41, kr77_42, kl104, kl105, if_pos (kf_ixN (by omega) (by decide)), if_pos (kf_ixN (by omega) (by decide)), nI_clamp (by omega), h6, h7]
  rcases kM_ter hE h8 (by omega) with ⟨e, τ, t1, t2, t3⟩ | ⟨x, e, τ, t1, t2⟩
  · refine ⟨τ, ?_, t2⟩
    rw [t1, Option.bind_some, e]
    dsimp only
    rw [t3, if_neg (by decide)]
    rfl
  · refine ⟨τ, ?_, t2.mono (fun _ h => h) (fun _ h => h.elim)⟩
    rw [t1, Option.bind_some, e]
    dsimp only
    rw [t2.2.1 50 (fun h => h), h50, if_pos rfl]
    rfl
theorem kp_chM.ag {lv cn bn : Nat} {J : Nat → Prop} {σ τ : kf_St} (c : kp_chM (fun k => k = 110) J σ τ) : kx_ab lv cn bn σ τ := ⟨fun r h1 h2 j _ _ => congrFun (c.1 r (by omega) (by omega)) j, fun r h1 j _ _ => congrFun (c.1 r (by omega) (by omega)) j⟩
theorem kM_brs {k lv cn : Nat} (hk : k < 3) (hl : lv < 2) (hcn : cn ≤ 840) {E : List kx_o} (hE : kx_1 E) : ∀ (bs : List (List kx_o × List kx_o × List kx_o)) (q f : Nat) (σ : kf_St), (∀ b, b ∈ bs → kx_1 b.1 ∧ kx_1 b.2.1 ∧ kx_1 b.2.2) → 130 * lv ≤ q → q + bs.length < 130 * lv + 130 → kx_ms σ lv cn q bs → kx_me σ lv cn (q + bs.length) E → σ.1 77 50 = 0 → σ.1 100 (3 * lv + k) = nI (q + bs.length + 1) → bs.length < f → ∃ τ, f_X12_lawTells_39 f 77 (nI (3 * lv + k)) (nI q) σ = some (kx_lb E (σ.1 109) bs, τ) ∧ kp_chM (fun k => k = 110) (fun j => j = 50) σ τ
  | [], q, f, σ, _, q1, q2, _, he, h50, hL, hf => by
    obtain ⟨p, h1, h2, h3, h6, h7, h8⟩ := he
    have q2 : q < 130 * lv + 130 := q2
    have h3 : σ.1 101 q = 0 := h3
    have hL : σ.1 100 (3 * lv + k) = nI (q + 1) := hL
    obtain ⟨τ, t1, t2⟩ := kM_119 hE hl q2 (by omega) h6 h7 h8 h50
    refine ⟨τ, ?_, t2⟩
    obtain ⟨g, rfl⟩ := kp_fuel (show 0 < f by omega)
    show f_X12_lawTells_39_s _ 77 _ _ σ = _
    unfold f_X12_lawTells_39_s
    rw [kr77_36, kl100, if_pos (kf_ixN (by omega) (by decide)), nI_clamp (by omega), hL, if_neg (nI_ge (by omega) (by omega)), kr77_38, kl101, if_pos (kf_ixN (by omega) (by decide)), nI_clamp (by omega), h3, if_pos rfl]
    exact t1
  | b :: bs, q, f, σ, hb, q1, q2, hm, he, h50, hL, hf => by
    obtain ⟨⟨p, h1, h2, h3, h4, h5, h6, h7, h8, h9, h10⟩, hr⟩ := hm
    obtain ⟨w1, w2, w3⟩ := hb b (List.mem_cons_self ..)
    rw [show q + (b :: bs).length = q + 1 + bs.length by rw [List.length_cons]; omega] at q2 he hL
    obtain ⟨g, rfl⟩ := kp_fuel (show 0 < f by omega)
    have hf : bs.length + 1 < g + 1 := hf
    show ∃ τ, f_X12_lawTells_39_s (f_X12_lawTells_39 g) 77 _ _ σ = some (match kx_va (σ.1 109) b.1, kx_va (σ.1 109) b.2.1 with
      | some x, some y => if x < y then (kx_va (σ.1 109) b.2.2).getD 0 else kx_lb E (σ.1 109) bs
      | _, _ => 0, τ) ∧ _
    unfold f_X12_lawTells_39_s
    rw [kr77_36, kl100, if_pos (kf_ixN (by omega) (by decide)), nI_clamp (by omega), hL, if_neg (nI_ge (by omega) (by omega)), kr77_38, kl101, if_pos (kf_ixN (by omega) (by decide)), nI_clamp (by omega), h3, if_neg (by decide), kr77_39, kr77_40, kr77_41, kl102, kl103, kl104, if_pos (kf_ixN (by omega) (by decide)), if_pos (kf_ixN (by omega) (by decide)), h4, h5]
    have two : ∀ (τ : kf_St) (x1 : Int32), f_X12_termOf 77 (nI p) (nI (p + b.1.length)) σ = some (x1, τ) → kp_chM (fun k => k = 110) (fun j => j = 50) σ τ → (τ.1 77 50 = 1 ∧ kx_va (σ.1 109) b.1 = none ∨ τ.1 77 50 = 0 ∧ kx_va (σ.1 109) b.1 = some x1) → ∃ τ', ((f_X12_termOf 77 (nI p) (nI (p + b.1.length)) σ).bind fun q_7 => if kf_ix (nI q) 260 = true then if kf_ix (nI q) 260 = true then (f_X12_termOf 77 (q_7.2.1 103 q) (q_7.2.1 104 q) q_7.2).bind fun q_10 => if q_10.2.1 77 50 = 0 then if q_7.1 < q_10.1 then f_X12_lawTells_119 77 (nI q) q_10.2 else kf_lt (nI q + 1) fun v4_13 => f_X12_lawTells_39 g 77 (nI (3 * lv + k)) v4_13 q_10.2 else some (0, q_10.2) else none else none) = some (match kx_va (σ.1 109) b.1, kx_va (σ.1 109) b.2.1 with
      | some x, some y => if x < y then (kx_va (σ.1 109) b.2.2).getD 0 else kx_lb E (σ.1 109) bs
      | _, _ => 0, τ') ∧ kp_chM (fun k => k = 110) (fun j => j = 50) σ τ' := by
      intro τ x1 r1 c r50
      have er : ∀ r, r ≠ 110 → r ≠ 77 → τ.1 r = σ.1 r := c.1
      rw [r1, Option.bind_some]
      dsimp only
      rw [if_pos (kf_ixN (by omega) (by decide)), if_pos (kf_ixN (by omega) (by decide)), er 103 (by decide) (by decide), er 104 (by decide) (by decide), h5, h6]
      rcases kM_ter (σ := τ) w2 (by rw [er 106 (by decide) (by decide), er 107 (by decide) (by decide)]; exact h9) (by omega) with ⟨e, τ2, t1, t2, t3⟩ | ⟨x2, e, τ2, t1, t2⟩
      · rw [er 109 (by decide) (by decide)] at e
        refine ⟨τ2, ?_, c.tr t2⟩
        rw [t1, Option.bind_some, e]
        dsimp only
        rw [t3, if_neg (by decide)]
        cases kx_va (σ.1 109) b.1 <;> rfl
      · rw [er 109 (by decide) (by decide)] at e
        have t2' : kp_chM (fun k => k = 110) (fun j => j = 50) σ τ2 := c.tr (t2.mono (fun _ h => h) (fun _ h => h.elim))
        have er2 : ∀ r, r ≠ 110 → r ≠ 77 → τ2.1 r = σ.1 r := t2'.1
        have e50 : τ2.1 77 50 = τ.1 77 50 := t2.2.1 50 (fun h => h)
        rw [t1, Option.bind_some, e]
        dsimp only
        rw [e50]
        rcases r50 with ⟨z, ev⟩ | ⟨z, ev⟩
        · refine ⟨τ2, ?_, t2'⟩
          rw [z, if_neg (by decide), ev]
        · rw [z, if_pos rfl, ev]
          dsimp only
          by_cases hxy : x1 < x2
          · rw [if_pos hxy, if_pos hxy]
            have h50' : τ2.1 77 50 = 0 := e50.trans z
            obtain ⟨τ3, v1, v2⟩ := kM_119 (σ := τ2) w3 hl (q := q) (by omega) (p := p + b.1.length + b.2.1.length) (by omega) (by rw [er2 104 (by decide) (by decide)]; exact h6) (by rw [er2 105 (by decide) (by decide)]; exact h7) (by rw [er2 106 (by decide) (by decide), er2 107 (by decide) (by decide)]; exact h10) h50'
            rw [er2 109 (by decide) (by decide)] at v1
            exact ⟨τ3, v1, t2'.tr v2⟩
          · rw [if_neg hxy, if_neg hxy]
            have ag2 : kx_ab lv cn (130 * lv + 130) σ τ2 := t2'.ag
            obtain ⟨τ3, v1, v2⟩ := kM_brs hk hl hcn hE bs (q + 1) g τ2 (fun c hc => hb c (List.mem_cons_of_mem _ hc)) (by omega) q2 (kx_ms_ag ag2 bs (by omega) (by omega) hr) (kx_me_ag ⟨by omega, q2⟩ ag2 he) (e50.trans z) (by rw [er2 100 (by decide) (by decide)]; exact hL) (by omega)
            rw [er2 109 (by decide) (by decide)] at v1
            refine ⟨τ3, ?_, t2'.tr v2⟩
            rw [kz_lt, nI_1]
            exact v1
    rcases kM_ter w1 h8 (by omega) with ⟨e, τ, t1, t2, t3⟩ | ⟨x, e, τ, t1, t2⟩
    · exact two τ 0 t1 t2 (Or.inl ⟨t3, e⟩)
    · exact two τ x t1 (t2.mono (fun _ h => h) (fun _ h => h.elim)) (Or.inr ⟨(t2.2.1 50 (fun h => h)).trans h50, e⟩)
/-- what a side's law tells: its own number where nothing is told -/
def kx_ol (d : Nat) (o : Option kx_w) : kp_Lw := match o with
  | none => fun _ => nI d
  | some w => kx_lv w
theorem kM_law {k lv d cn bn : Nat} {o : Option kx_w} {σ : kf_St} (hk : k < 3) (hl : lv < 2) (hcn : cn ≤ 420 * lv + 420) (hbn : bn ≤ 130 * lv + 130) (h18 : σ.1 77 18 = nI lv) (hw : ∀ w, o = some w → kx_wok w) (h : kx_MO k o lv cn bn σ) : kp_LM k (nI d) (kx_ol d o) lv σ := by
  intro σ' c e18
  have h' := kx_MO_ag (c.1 99 (by omega) _ (by omega) (by omega)) (c.1 100 (by omega) _ (by omega) (by omega)) (c.ab hcn hbn) h
  rw [h18] at e18
  unfold f_X12_lawTells
  have i3 : (3 : Int32) * nI lv + nI k = nI (3 * lv + k) := by rw [show (3 : Int32) = nI 3 from rfl, pk_mul, nI_add]
  simp only [kz_lt]
  rw [e18, i3, kr77_35, kr77_36, kl99, kl100, if_pos (kf_ixN (by omega) (by decide)), if_pos (kf_ixN (by omega) (by decide)), nI_clamp (by omega)]
  match o, hw, h' with
  | none, _, h' =>
    obtain ⟨a, b⟩ := h'
    rw [a, b, if_pos rfl]
    exact ⟨σ', rfl, kp_chM.rf⟩
  | some w, hw, h' =>
    obtain ⟨q, h1, h2, h3, h4, h5, h6⟩ := h'
    rw [h3, h4, if_neg (fun e => absurd ((nI_eq (by omega) (by omega)).mp e) (by omega)), if_pos (kf_ixN (by omega) (by decide))]
    have hw := hw w rfl
    have c50 : kp_chM (fun k => k = 110) (fun j => j = 50) σ' (kf_wi σ' 77 50 0) := kp_chM.rf.ws rfl
    have ag := c50.ag (lv := lv) (cn := cn) (bn := bn)
    have er : ∀ r, r ≠ 110 → r ≠ 77 → (kf_wi σ' 77 50 0).1 r = σ'.1 r := c50.1
    have kF : 1000 ≤ kf_F := by decide
    obtain ⟨τ, t1, t2⟩ := kM_brs hk hl (by omega) hw.2 w.1 q kf_F (kf_wi σ' 77 50 0) hw.1 h1 (by omega) (kx_ms_ag ag _ h1 (by omega) h5) (kx_me_ag ⟨by omega, h2⟩ ag h6) (kp_wi_same _ _ _ _) (by rw [er 100 (by decide) (by decide)]; exact h4) (by omega)
    rw [er 109 (by decide) (by decide)] at t1
    refine ⟨τ, ?_, c50.tr t2⟩
    rw [er 99 (by decide) (by decide), h3]
    exact t1
