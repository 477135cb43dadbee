/-! ===== pure: the reference reads a law ===== -/
def kx_lF (sd k c0 b0 a b : Nat) : Prop := kx_eP sd c0 a b ∨ (a = 77 ∧ b = 37) ∨ (101 ≤ a ∧ a ≤ 105 ∧ b0 ≤ b ∧ b < 130 * sd + 130) ∨ ((a = 99 ∨ a = 100) ∧ b = 3 * sd + k)
def kx_CX (sd : Nat) (s : kx_S) (cs : List kx_o) (σ : kf_St) : Prop := s.2 = 0 → kx_CM sd cs σ ∧ σ.1 77 12 = 0 ∧ cs.length ≤ s.1
theorem kx_CX.fr {sd : Nat} {s : kx_S} {cs : List kx_o} {P : Nat → Nat → Prop} {σ τ : kf_St} (h : kx_CX sd s cs σ) (c : kx_fr P kx_n0 σ τ) (h0 : ∀ a b, P a b → a ≠ 106 ∧ a ≠ 107 ∧ (a = 77 → b ≠ 12 ∧ b ≠ 43)) : kx_CX sd s cs τ := fun q => by
  obtain ⟨⟨a1, a2⟩, a3, a4⟩ := h q
  refine ⟨⟨(c.1 77 43 (fun z => ((h0 _ _ z).2.2 rfl).2 rfl)).trans a1, ?_⟩, (c.1 77 12 (fun z => ((h0 _ _ z).2.2 rfl).1 rfl)).trans a3, a4⟩
  rw [c.row (a := 106) (fun b z => (h0 _ _ z).1 rfl), c.row (a := 107) (fun b z => (h0 _ _ z).2.1 rfl)]
  exact a2
theorem kx_CX.tk {X : kx_X} {sd d : Nat} {s : kx_S} {cs : List kx_o} {σ τ : kf_St} (h : kx_CX sd s cs σ) (c : kx_fr kx_mT kx_n0 σ τ) : kx_CX sd (kx_tk X d s) cs τ := fun q => by
  obtain ⟨z1, z2, z3, z4⟩ := kx_tk_0 q
  obtain ⟨a1, a2, a3⟩ := (h.fr c (fun a b q => by unfold kx_mT at q; omega)) z1
  exact ⟨a1, a2, by rw [z4]; show _ ≤ s.1 + 1; omega⟩
theorem kM_exG {X : kx_X} {sd c0 : Nat} {S : kx_sf} {s : kx_S} {cs : List kx_o} {σ : kf_St} (hS : kx_gd X 15 S) (hM : kx_xM X sd S) (h : kx_RM X s σ) (hc : kx_CX sd s cs σ) (h0 : c0 ≤ 420 * sd + cs.length) : ∃ τ, f_X12_expression 77 σ = some τ ∧ kx_RM X (S s).1 τ ∧ kx_fr (kx_eP sd c0) kx_n0 σ τ ∧ kx_CX sd (S s).1 (cs ++ (S s).2) τ ∧ ((S s).1.2 = 0 → s.2 = 0) := by
  by_cases z : s.2 = 0
  · obtain ⟨a1, a2, a3⟩ := hc z
    obtain ⟨τ, t1, t2, t3, t4⟩ := hM s cs σ c0 h a1 z a2 a3 h0
    exact ⟨τ, t1, t2, t3, fun q => ⟨(t4 q).2.1, (t4 q).1, (t4 q).2.2⟩, fun _ => z⟩
  · obtain ⟨τ, t1, t2, t3⟩ := kM_exprF (sd := sd) (c0 := c0) h z
    have e := (hS s h.1).2.1 z
    rw [e]
    exact ⟨τ, t1, t2, t3, fun q => absurd q z, fun q => q⟩
theorem kM_exI {X : kx_X} {sd c0 : Nat} {S : kx_sf} {s : kx_S} {cs : List kx_o} {σ : kf_St} (hS : kx_gd X 15 S) (hM : kx_xM X sd S) (h : kx_RM X s σ) (hc : kx_CX sd s cs σ) (h0 : c0 ≤ 420 * sd + cs.length) : ∃ τ, (∀ F : kf_St → Option kf_St, (if σ.1 77 13 = 0 then (f_X12_expression 77 σ).bind F else F σ) = F τ) ∧ kx_RM X (S s).1 τ ∧ kx_fr (kx_eP sd c0) kx_n0 σ τ ∧ kx_CX sd (S s).1 (cs ++ (S s).2) τ ∧ ((S s).1.2 = 0 → s.2 = 0) := by
  have f2 := h.1.2
  by_cases z : s.2 = 0
  · obtain ⟨τ, t1, t2⟩ := kM_exG (c0 := c0) hS hM h hc h0
    refine ⟨τ, fun F => ?_, t2⟩
    rw [h.2.2.1, if_pos (show nI s.2 = 0 by rw [z]; rfl), t1, Option.bind_some]
  · have e := (hS s h.1).2.1 z
    rw [e]
    refine ⟨σ, fun F => ?_, h, kx_fr.rf, fun q => absurd q z, fun q => q⟩
    rw [h.2.2.1, if_neg (nI_ne0 (by omega) (by omega))]
/-- a row of the branches is written -/
def kx_rP (B a b : Nat) : Prop := 101 ≤ a ∧ a ≤ 105 ∧ b = B
theorem kx_RM.rp {X : kx_X} {s : kx_S} {B : Nat} {σ τ : kf_St} (h : kx_RM X s σ) (c : kx_fr (kx_rP B) kx_n0 σ τ) : kx_RM X s τ := h.fr c (fun a b _ _ q => by unfold kx_rP at q; omega) (fun b q => q) ⟨by unfold kx_rP; omega, by unfold kx_rP; omega, by unfold kx_rP; omega⟩
theorem kx_CX.rp {sd B : Nat} {s : kx_S} {cs : List kx_o} {σ τ : kf_St} (h : kx_CX sd s cs σ) (c : kx_fr (kx_rP B) kx_n0 σ τ) : kx_CX sd s cs τ := h.fr c (fun a b q => by unfold kx_rP at q; omega)
/-- a term: where it begins, where it ends; the next branch -/
theorem kM_term {X : kx_X} {sd c0 B : Nat} {S : kx_sf} {s : kx_S} {cs : List kx_o} {σ : kf_St} (hS : kx_gd X 15 S) (hM : kx_xM X sd S) (h : kx_RM X s σ) (hc : kx_CX sd s cs σ) (h0 : c0 ≤ 420 * sd + cs.length) (hB : σ.1 77 37 = nI B) (hB2 : B < 260) : ∃ τ, f_X12_term 77 σ = some τ ∧ kx_RM X (S s).1 τ ∧ kx_fr (fun a b => kx_eP sd c0 a b ∨ (a = 77 ∧ b = 37) ∨ ((a = 104 ∨ a = 105) ∧ b = B)) kx_n0 σ τ ∧ kx_CX sd (S s).1 (cs ++ (S s).2) τ ∧ τ.1 77 37 = nI (B + 1) ∧ ((S s).1.2 = 0 → s.2 = 0 ∧ τ.1 104 B = nI (420 * sd + cs.length) ∧ τ.1 105 B = nI (420 * sd + (cs ++ (S s).2).length)) := by
  have c1 : kx_fr (kx_rP B) kx_n0 σ (kf_wi σ 104 B (σ.1 77 43)) := kx_fr.rf.wi ⟨by decide, by decide, rfl⟩
  have c1' : kx_fr (fun a b => a = 104 ∧ b = B) kx_n0 σ (kf_wi σ 104 B (σ.1 77 43)) := kx_fr.rf.wi ⟨rfl, rfl⟩
  obtain ⟨τ1, t1, t2, t3, t4, t5⟩ := kM_exI (c0 := c0) hS hM (h.rp c1) (hc.rp c1) h0
  have b1 : τ1.1 77 37 = nI B := (t3.1 77 37 (by unfold kx_eP; omega)).trans ((c1.1 77 37 (by unfold kx_rP; omega)).trans hB)
  have c2 : kx_fr (fun a b => (a = 77 ∧ b = 37) ∨ (a = 105 ∧ b = B)) kx_n0 τ1 (kf_wi (kf_wi τ1 105 B (τ1.1 77 43)) 77 37 (nI (B + 1))) := (kx_fr.rf.wi (Or.inr ⟨rfl, rfl⟩)).wi (Or.inl ⟨rfl, rfl⟩)
  refine ⟨_, ?_, t2.fr c2 (fun a b _ _ q => by omega) (fun b q => q) ⟨by omega, by omega, by omega⟩, ((c1'.mono (fun a b q => by omega) (fun _ _ q => q)).tr (t3.mono (fun _ _ q => Or.inl q) (fun _ _ q => q))).tr (c2.mono (fun a b q => by omega) (fun _ _ q => q)), t4.fr c2 (fun a b q => by omega), kp_wi_same _ _ _ _, fun q => ?_⟩
  · unfold f_X12_term
    simp only [kz_lt]
    rw [hB, kr77_41, kl104, if_pos (kf_ixN hB2 (by decide)), nI_clamp (by omega)]
    refine (t1 (fun q => f_X12_term_24 77 q)).trans ?_
    unfold f_X12_term_24
    simp only [kz_lt]
    rw [b1, kr77_42, kl105, if_pos (kf_ixN hB2 (by decide)), nI_clamp (by omega), kp_wi_row (by decide), b1, nI_1]
  · have z := t5 q
    refine ⟨z, ?_, ?_⟩
    · rw [kp_wi_row (by decide), kp_wi_row (by decide), t3.1 104 B (by unfold kx_eP; omega), kp_wi_same]
      exact (hc z).1.1
    · rw [kp_wi_row (by decide), kp_wi_same]
      exact (t4 q).1.1
