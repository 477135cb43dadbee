/-! ===== pure: what is, and how both hold it ===== -/
def kd_0 : kp_D := (fun _ => 0, 0, 0, 0, 0, 0)
/-- town, street, history, slots, told, tape, place -/
abbrev kp_A : Type := kp_T × kp_S × (Nat × (Nat → kp_S)) × (Nat → Option kp_S) × (Nat × (Nat → Nat) × (Nat → Nat) × (Nat → Int32)) × (Nat × (Nat → Int32)) × Int32
abbrev ka_T (A : kp_A) : kp_T := A.1
abbrev ka_S (A : kp_A) : kp_S := A.2.1
abbrev ka_n (A : kp_A) : Nat := A.2.2.1.1
abbrev ka_H (A : kp_A) : Nat → kp_S := A.2.2.1.2
abbrev ka_Q (A : kp_A) : Nat → Option kp_S := A.2.2.2.1
abbrev ka_w (A : kp_A) : Nat := A.2.2.2.2.1.1
abbrev ka_wd (A : kp_A) : Nat → Nat := A.2.2.2.2.1.2.1
abbrev ka_wp (A : kp_A) : Nat → Nat := A.2.2.2.2.1.2.2.1
abbrev ka_ww (A : kp_A) : Nat → Int32 := A.2.2.2.2.1.2.2.2
abbrev ka_l (A : kp_A) : Nat := A.2.2.2.2.2.1.1
abbrev ka_b (A : kp_A) : Nat → Int32 := A.2.2.2.2.2.1.2
abbrev ka_p (A : kp_A) : Int32 := A.2.2.2.2.2.2
def kp_Gok (T : kp_T) (k : Nat) (S : kp_S) : Prop := (∀ d, d < kt_nd T → kp_Dok (S.1 d)) ∧ (∀ d, kt_nd T ≤ d → d < 6 → S.1 d = kd_0) ∧ S.2.2.1 < 2 ^ kt_nr T ∧ S.2.2.2 ≤ 60 * k
def kp_Aok (A : kp_A) (k : Nat) : Prop := kp_Tok (ka_T A) ∧ kp_Gok (ka_T A) k (ka_S A) ∧ (∀ i, i < ka_n A → kp_Gok (ka_T A) k (ka_H A i)) ∧ (∀ s Z, ka_Q A s = some Z → kp_Gok (ka_T A) k Z) ∧ (ka_w A ≤ 20 ∧ ∀ i, i < ka_w A → ka_wd A i < kt_nd (ka_T A) ∧ ka_wp A i < 4) ∧ ka_l A ≤ 2000
def kp_Cr (A : kp_A) (σ : kf_St) : Prop := kp_CT (ka_T A) σ ∧ kp_cS σ (kt_nd (ka_T A)) (ka_S A) ∧ kp_HC σ (kt_nd (ka_T A)) (ka_n A) (ka_H A) ∧ kp_QC σ (kt_nd (ka_T A)) (ka_Q A) ∧ (σ.1 72 0 = nI (ka_w A) ∧ ∀ i, i < ka_w A → σ.1 73 i = nI (ka_wd A i) ∧ σ.1 74 i = nI (ka_wp A i) ∧ σ.1 75 i = ka_ww A i) ∧ (σ.1 1 0 = nI (ka_l A) ∧ ∀ i, i < ka_l A → σ.1 2 i = ka_b A i) ∧ σ.1 43 1 = ka_p A ∧ (∀ i, i < 21 → σ.2 3 i = kf_codes i)
def kp_Mr (A : kp_A) (σ : kf_St) : Prop := (∃ lv, kp_MT (ka_T A) lv σ) ∧ kp_fS (σ.1 111) (ka_S A) ∧ kp_HM σ (ka_n A) (ka_H A) ∧ kp_QM σ (ka_Q A) ∧ (σ.1 77 60 = nI (ka_w A) ∧ ∀ i, i < ka_w A → σ.1 117 i = nI (ka_wd A i) ∧ σ.1 118 i = nI (ka_wp A i) ∧ σ.1 119 i = ka_ww A i) ∧ (σ.1 77 2 = nI (ka_l A) ∧ ∀ i, i < ka_l A → σ.1 78 i = ka_b A i) ∧ σ.1 77 17 = ka_p A ∧ (∀ i, i < 21 → σ.2 84 i = kf_codes i)
def kp_frC (σ σ' : kf_St) : Prop := ∀ r, 77 ≤ r → σ'.1 r = σ.1 r ∧ σ'.2 r = σ.2 r
def kp_frM (σ σ' : kf_St) : Prop := ∀ r, r < 77 → σ'.1 r = σ.1 r ∧ σ'.2 r = σ.2 r
theorem kp_frC.tr {a b c : kf_St} (h : kp_frC a b) (h2 : kp_frC b c) : kp_frC a c := fun r hr => ⟨(h2 r hr).1.trans (h r hr).1, (h2 r hr).2.trans (h r hr).2⟩
theorem kp_frM.tr {a b c : kf_St} (h : kp_frM a b) (h2 : kp_frM b c) : kp_frM a c := fun r hr => ⟨(h2 r hr).1.trans (h r hr).1, (h2 r hr).2.trans (h r hr).2⟩
theorem kp_ch.frC {S : Nat → Prop} {σ σ' : kf_St} (h : kp_ch S σ σ') (hS : ∀ r, S r → r < 77) : kp_frC σ σ' := fun r hr => ⟨h.1 r (fun e => by have := hS r e; omega), by rw [h.2]⟩
theorem kp_chM.frM {S J : Nat → Prop} {σ σ' : kf_St} (h : kp_chM S J σ σ') (hS : ∀ r, S r → 77 < r) : kp_frM σ σ' := fun r hr => ⟨h.1 r (fun e => by have := hS r e; omega) (by omega), by rw [h.2.2]⟩
/-! what may change with nothing happening -/
def kp_xC (r : Nat) : Prop := r = 18 ∨ r = 21 ∨ r = 24 ∨ r = 59 ∨ r = 64 ∨ r = 65 ∨ r = 67 ∨ r = 68 ∨ r = 69 ∨ r = 71 ∨ r = 76
def kp_xM (r : Nat) : Prop := r = 109 ∨ r = 110 ∨ r = 112 ∨ r = 113 ∨ r = 115 ∨ r = 116
def kp_jM (j : Nat) : Prop := j = 50 ∨ j = 53 ∨ j = 54
theorem kp_cS.ch {σ τ : kf_St} {nd : Nat} {S : kp_S} (h : kp_cS σ nd S) (hn : nd ≤ 6) (e : ∀ r, r = 44 ∨ 46 ≤ r ∧ r ≤ 58 → τ.1 r = σ.1 r) : kp_cS τ nd S := by
  obtain ⟨h1, h2, h3, h4⟩ := h
  refine ⟨fun d hd => ?_, fun c hc => by rw [e 58 (by omega)]; exact h2 c hc, by rw [e 44 (by omega)]; exact h3, by rw [e 44 (by omega)]; exact h4⟩
  rw [← h1 d hd]
  exact kp_cD_eq (e _ (by omega)) (e _ (by omega))
theorem kp_HC.ch {σ τ : kf_St} {nd n : Nat} {H : Nat → kp_S} (h : kp_HC σ nd n H) (e0 : τ.1 60 = σ.1 60) (e1 : τ.1 61 = σ.1 61) : kp_HC τ nd n H := by
  unfold kp_HC
  rw [e0, e1]
  exact h
theorem kp_QC.ch {σ τ : kf_St} {nd : Nat} {Q : Nat → Option kp_S} (h : kp_QC σ nd Q) (e0 : τ.1 60 1 = σ.1 60 1) (e1 : τ.1 62 = σ.1 62) : kp_QC τ nd Q := by
  unfold kp_QC
  rw [e0, e1]
  exact h
theorem kp_HM.ch {σ τ : kf_St} {n : Nat} {H : Nat → kp_S} (h : kp_HM σ n H) (e0 : τ.1 77 56 = σ.1 77 56) (e1 : τ.1 114 = σ.1 114) : kp_HM τ n H := by
  unfold kp_HM
  rw [e0, e1]
  exact h
theorem kp_QM.ch {σ τ : kf_St} {Q : Nat → Option kp_S} (h : kp_QM σ Q) (e0 : τ.1 120 = σ.1 120) (e1 : τ.1 121 = σ.1 121) : kp_QM τ Q := by
  unfold kp_QM
  rw [e0, e1]
  exact h
theorem kp_Cr.ch {A : kp_A} {k : Nat} {σ τ : kf_St} (hA : kp_Aok A k) (h : kp_Cr A σ) (c : kp_ch kp_xC σ τ) : kp_Cr A τ := by
  obtain ⟨h1, h2, h3, h4, h5, h6, h7, h8⟩ := h
  have e : ∀ r, ¬ kp_xC r → τ.1 r = σ.1 r := c.1
  unfold kp_xC at e
  refine ⟨h1.ch (fun r a b d f => e r (by omega)), h2.ch hA.1.1.1 (fun r a => e r (by omega)), h3.ch (e 60 (by omega)) (e 61 (by omega)), h4.ch (by rw [e 60 (by omega)]) (e 62 (by omega)), ?_, ?_, ?_, ?_⟩
  · rw [e 72 (by omega), e 73 (by omega), e 74 (by omega), e 75 (by omega)]; exact h5
  · rw [e 1 (by omega), e 2 (by omega)]; exact h6
  · rw [e 43 (by omega)]; exact h7
  · rw [c.2]; exact h8
theorem kp_Mr.ch {A : kp_A} {σ τ : kf_St} (h : kp_Mr A σ) (c : kp_chM kp_xM kp_jM σ τ) : kp_Mr A τ := by
  obtain ⟨⟨lv, h1⟩, h2, h3, h4, h5, h6, h7, h8⟩ := h
  have e : ∀ r, ¬ kp_xM r → r ≠ 77 → τ.1 r = σ.1 r := c.1
  have j : ∀ r, ¬ kp_jM r → τ.1 77 r = σ.1 77 r := c.2.1
  unfold kp_xM at e
  unfold kp_jM at j
  refine ⟨⟨lv, h1.ch (fun r a b => e r (by omega) (by omega)) (j 18 (by omega))⟩, ?_, h3.ch (j 56 (by omega)) (e 114 (by omega) (by omega)), h4.ch (e 120 (by omega) (by omega)) (e 121 (by omega) (by omega)), ?_, ?_, ?_, ?_⟩
  · rw [e 111 (by omega) (by omega)]; exact h2
  · rw [j 60 (by omega), e 117 (by omega) (by omega), e 118 (by omega) (by omega), e 119 (by omega) (by omega)]; exact h5
  · rw [j 2 (by omega), e 78 (by omega) (by omega)]; exact h6
  · rw [j 17 (by omega)]; exact h7
  · rw [c.2.2]; exact h8
theorem kp_Cr.fr {A : kp_A} {σ τ : kf_St} (hn : kt_nd (ka_T A) ≤ 6) (h : kp_Cr A σ) (c : kp_frM σ τ) : kp_Cr A τ := by
  obtain ⟨h1, h2, h3, h4, h5, h6, h7, h8⟩ := h
  have e : ∀ r, r < 77 → τ.1 r = σ.1 r := fun r hr => (c r hr).1
  refine ⟨h1.ch (fun r a b d f => e r (by omega)), h2.ch hn (fun r a => e r (by omega)), h3.ch (e 60 (by omega)) (e 61 (by omega)), h4.ch (by rw [e 60 (by omega)]) (e 62 (by omega)), ?_, ?_, ?_, ?_⟩
  · rw [e 72 (by omega), e 73 (by omega), e 74 (by omega), e 75 (by omega)]; exact h5
  · rw [e 1 (by omega), e 2 (by omega)]; exact h6
  · rw [e 43 (by omega)]; exact h7
  · rw [(c 3 (by omega)).2]; exact h8
theorem kp_Mr.fr {A : kp_A} {σ τ : kf_St} (h : kp_Mr A σ) (c : kp_frC σ τ) : kp_Mr A τ := by
  obtain ⟨⟨lv, h1⟩, h2, h3, h4, h5, h6, h7, h8⟩ := h
  have e : ∀ r, 77 ≤ r → τ.1 r = σ.1 r := fun r hr => (c r hr).1
  refine ⟨⟨lv, h1.ch (fun r a b => e r (by omega)) (by rw [e 77 (by omega)])⟩, ?_, h3.ch (by rw [e 77 (by omega)]) (e 114 (by omega)), h4.ch (e 120 (by omega)) (e 121 (by omega)), ?_, ?_, ?_, ?_⟩
  · rw [e 111 (by omega)]; exact h2
  · rw [e 77 (by omega), e 117 (by omega), e 118 (by omega), e 119 (by omega)]; exact h5
  · rw [e 77 (by omega), e 78 (by omega)]; exact h6
  · rw [e 77 (by omega)]; exact h7
  · rw [(c 84 (by omega)).2]; exact h8
/-- one call, answered by both -/
def kp_op (A : kp_A) (k : Nat) (f g : kf_St → Option (Int32 × kf_St)) : Prop := ∃ v A', kp_Aok A' (k + 1) ∧ (∀ σ, kp_Cr A σ → ∃ σ', f σ = some (v, σ') ∧ kp_frC σ σ' ∧ kp_Cr A' σ') ∧ (∀ σ, kp_Mr A σ → ∃ σ', g σ = some (v, σ') ∧ kp_frM σ σ' ∧ kp_Mr A' σ')
/-- a call that only asks -/
def kp_qq (A : kp_A) (f g : kf_St → Option (Int32 × kf_St)) : Prop := ∃ v, (∀ σ, kp_Cr A σ → ∃ σ', f σ = some (v, σ') ∧ kp_ch kp_xC σ σ') ∧ (∀ σ, kp_Mr A σ → ∃ σ', g σ = some (v, σ') ∧ kp_chM kp_xM kp_jM σ σ')
theorem kp_Gok.mo {T : kp_T} {k : Nat} {S : kp_S} (h : kp_Gok T k S) : kp_Gok T (k + 1) S := ⟨h.1, h.2.1, h.2.2.1, by have := h.2.2.2; omega⟩
theorem kp_Aok.mo {A : kp_A} {k : Nat} (h : kp_Aok A k) : kp_Aok A (k + 1) := ⟨h.1, h.2.1.mo, fun i hi => (h.2.2.1 i hi).mo, fun s Z e => (h.2.2.2.1 s Z e).mo, h.2.2.2.2⟩
theorem kp_qq.op {A : kp_A} {k : Nat} {f g : kf_St → Option (Int32 × kf_St)} (hA : kp_Aok A k) (h : kp_qq A f g) : kp_op A k f g := by
  obtain ⟨v, h1, h2⟩ := h
  refine ⟨v, A, hA.mo, fun σ hσ => ?_, fun σ hσ => ?_⟩
  · obtain ⟨σ', a, b⟩ := h1 σ hσ
    exact ⟨σ', a, b.frC (fun r e => by unfold kp_xC at e; omega), hσ.ch hA b⟩
  · obtain ⟨σ', a, b⟩ := h2 σ hσ
    exact ⟨σ', a, b.frM (fun r e => by unfold kp_xM at e; omega), hσ.ch b⟩
/-- both give one answer at once -/
theorem kp_qq.st {A : kp_A} {f g : kf_St → Option (Int32 × kf_St)} (v : Int32) (h1 : ∀ σ, kp_Cr A σ → f σ = some (v, σ)) (h2 : ∀ σ, kp_Mr A σ → g σ = some (v, σ)) : kp_qq A f g := ⟨v, fun σ h => ⟨σ, h1 σ h, kp_ch.rf⟩, fun σ h => ⟨σ, h2 σ h, kp_chM.rf⟩⟩
theorem kp_is_t {x : Int32} {n : Nat} (hn : n < 2 ^ 31) (h : kp_is x n = true) : ∃ j, j < n ∧ x = nI j := (kp_is_iff hn).mp h
theorem kp_isN {n j : Nat} (hj : j < n) (hn : n < 2 ^ 31) : kp_is (nI j) n = true := (kp_is_iff hn).mpr ⟨j, hj, rfl⟩
theorem kp_in0 {σ : kf_St} {m : Nat} {x : Int32} (hm : m < 2 ^ 30 - 1) : f_X12_in x 0 (nI m) σ = some (if kp_is x (m + 1) then 1 else 0, σ) := by
  have := kp_in (σ := σ) (n := m + 1) (x := x) (by omega)
  rw [nI_pred] at this
  exact this
theorem kp_zb01 (b : Bool) : (kf_zb (if b then 1 else 0) = true) = True := by cases b <;> exact eq_true (by decide)
theorem kp_isPartM (x : Int32) (σ : kf_St) : f_X12_isPart x σ = some (if kp_is x 4 then 1 else 0, σ) := by
  unfold f_X12_isPart
  rw [show (3 : Int32) = nI 3 from rfl, kp_in0 (by decide), Option.bind_some]
  dsimp only
  rw [if_pos (of_eq_true (kp_zb01 _))]
theorem kp_isLongM (x : Int32) (σ : kf_St) : f_X12_isLong x σ = some (if kp_is x 61 then 1 else 0, σ) := by
  unfold f_X12_isLong
  rw [show (60 : Int32) = nI 60 from rfl, kp_in0 (by decide), Option.bind_some]
  dsimp only
  rw [if_pos (of_eq_true (kp_zb01 _))]
theorem kp_isPartC (x : Int32) (σ : kf_St) : f_X11_isPart x σ = some (if kp_is x 4 then 1 else 0, σ) := by
  unfold f_X11_isPart
  have : ∀ τ : kf_St, τ.1 7 0 = nI 4 → (if x < 0 then some ((0 : Int32), σ) else if nI 4 ≤ x then some (0, σ) else some (1, σ)) = some (if kp_is x 4 then 1 else 0, σ) := fun τ e => by
    have := kp_has (σ := τ) (x := x) (j := 0) (by decide) e
    rw [e] at this
    by_cases h1 : x < 0
    · rw [if_pos h1] at this ⊢
      by_cases h3 : kp_is x 4 = true
      · rw [if_pos h3] at this; cases this
      · rw [if_neg h3]
    · rw [if_neg h1] at this ⊢
      by_cases h2 : nI 4 ≤ x
      · rw [if_pos h2] at this ⊢
        by_cases h3 : kp_is x 4 = true
        · rw [if_pos h3] at this; cases this
        · rw [if_neg h3]
      · rw [if_neg h2] at this ⊢
        by_cases h3 : kp_is x 4 = true
        · rw [if_pos h3]
        · rw [if_neg h3] at this; cases this
  exact this (kf_wi σ 7 0 (nI 4)) (kp_wi_same _ _ _ _)
