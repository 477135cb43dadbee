/-! ===== pure: frames, cell by cell ===== -/
def kx_fr (P Q : Nat → Nat → Prop) (σ σ' : kf_St) : Prop := (∀ a b, ¬ P a b → σ'.1 a b = σ.1 a b) ∧ (∀ a b, ¬ Q a b → σ'.2 a b = σ.2 a b)
theorem kx_fr.rf {P Q : Nat → Nat → Prop} {σ : kf_St} : kx_fr P Q σ σ := ⟨fun _ _ _ => rfl, fun _ _ _ => rfl⟩
theorem kx_fr.tr {P Q : Nat → Nat → Prop} {a b c : kf_St} (h : kx_fr P Q a b) (h2 : kx_fr P Q b c) : kx_fr P Q a c := ⟨fun x y n => (h2.1 x y n).trans (h.1 x y n), fun x y n => (h2.2 x y n).trans (h.2 x y n)⟩
theorem kx_fr.mono {P Q P' Q' : Nat → Nat → Prop} {σ σ' : kf_St} (h : kx_fr P Q σ σ') (hP : ∀ a b, P a b → P' a b) (hQ : ∀ a b, Q a b → Q' a b) : kx_fr P' Q' σ σ' := ⟨fun x y n => h.1 x y (fun e => n (hP x y e)), fun x y n => h.2 x y (fun e => n (hQ x y e))⟩
theorem kx_fr.wi {P Q : Nat → Nat → Prop} {σ σ' : kf_St} (h : kx_fr P Q σ σ') {k j : Nat} {v : Int32} (hk : P k j) : kx_fr P Q σ (kf_wi σ' k j v) := ⟨fun a b n => by
  rw [kp_wi_at, if_neg (fun e => n (by rw [e.1, e.2]; exact hk))]
  exact h.1 a b n, h.2⟩
theorem kp_wl_at (σ : kf_St) (k j : Nat) (v : Int64) (a b : Nat) : (kf_wl σ k j v).2 a b = if a = k ∧ b = j then v else σ.2 a b := rfl
theorem kp_wl_1 (σ : kf_St) (k j : Nat) (v : Int64) : (kf_wl σ k j v).1 = σ.1 := rfl
theorem kp_wl_same (σ : kf_St) (k j : Nat) (v : Int64) : (kf_wl σ k j v).2 k j = v := by rw [kp_wl_at, if_pos ⟨rfl, rfl⟩]
theorem kp_wl_ne {σ : kf_St} {k j a b : Nat} {v : Int64} (h : ¬ (a = k ∧ b = j)) : (kf_wl σ k j v).2 a b = σ.2 a b := by rw [kp_wl_at, if_neg h]
theorem kp_wi_ne {σ : kf_St} {k j a b : Nat} {v : Int32} (h : ¬ (a = k ∧ b = j)) : (kf_wi σ k j v).1 a b = σ.1 a b := by rw [kp_wi_at, if_neg h]
theorem kx_fr.wl {P Q : Nat → Nat → Prop} {σ σ' : kf_St} (h : kx_fr P Q σ σ') {k j : Nat} {v : Int64} (hk : Q k j) : kx_fr P Q σ (kf_wl σ' k j v) := ⟨h.1, fun a b n => by
  rw [kp_wl_at, if_neg (fun e => n (by rw [e.1, e.2]; exact hk))]
  exact h.2 a b n⟩
theorem kx_fr.row {P Q : Nat → Nat → Prop} {σ σ' : kf_St} (h : kx_fr P Q σ σ') {a : Nat} (ha : ∀ b, ¬ P a b) : σ'.1 a = σ.1 a := funext (fun b => h.1 a b (ha b))
theorem kx_fr.rowl {P Q : Nat → Nat → Prop} {σ σ' : kf_St} (h : kx_fr P Q σ σ') {a : Nat} (ha : ∀ b, ¬ Q a b) : σ'.2 a = σ.2 a := funext (fun b => h.2 a b (ha b))
/-! bytes -/
theorem kx_and255 (x : Int32) : x &&& 255 = nI (x.toBitVec.toNat % 256) := by
  apply Int32.toBitVec_inj.mp
  apply BitVec.eq_of_toNat_eq
  have e : (nI (x.toBitVec.toNat % 256)).toBitVec = BitVec.ofNat 32 (x.toBitVec.toNat % 256) := rfl
  rw [Int32.toBitVec_and, BitVec.toNat_and, e, BitVec.toNat_ofNat, show (255 : Int32).toBitVec.toNat = 2 ^ 8 - 1 from rfl, Nat.and_two_pow_sub_one_eq_mod]
  omega
theorem kx_nar8 (x : Int32) : vp_nar .byte x &&& 255 = x &&& 255 := by
  apply Int32.toBitVec_inj.mp
  apply BitVec.eq_of_getLsbD_eq
  intro i hi
  have e1 : (vp_nar .byte x).toBitVec = (x.toBitVec.signExtend 8).signExtend 32 := rfl
  rw [Int32.toBitVec_and, Int32.toBitVec_and, BitVec.getLsbD_and, BitVec.getLsbD_and, e1]
  by_cases h : i < 8
  · rw [BitVec.getLsbD_signExtend, BitVec.getLsbD_signExtend]
    have a1 : i < 32 := by omega
    simp [h, a1]
  · have z : (255 : Int32).toBitVec.getLsbD i = false := by
      have : (255 : Int32).toBitVec = BitVec.ofNat 32 255 := rfl
      rw [this, BitVec.getLsbD_ofNat]
      have : Nat.testBit 255 i = false := Nat.testBit_lt_two_pow (x := 255) (i := i) (Nat.lt_of_lt_of_le (by decide : 255 < 2 ^ 8) (Nat.pow_le_pow_right (by decide) (by omega)))
      rw [this, Bool.and_false]
    rw [z, Bool.and_false, Bool.and_false]
abbrev kx_X : Type := Nat × (Nat → Nat)
def kx_bl (x : Nat) : Bool := decide (x = 9) || decide (x = 10) || decide (x = 13) || decide (x = 32)
def kx_le (x : Nat) : Bool := decide (97 ≤ x) && decide (x ≤ 122)
def kx_di (x : Nat) : Bool := decide (48 ≤ x) && decide (x ≤ 57)
def kx_sg (x : Nat) : Bool := decide (x = 59) || decide (x = 61) || decide (x = 43) || decide (x = 45) || decide (x = 42) || decide (x = 47) || decide (x = 60) || decide (x = 40) || decide (x = 41)
def kx_b1 (b : Bool) : Int32 := if b then 1 else 0
theorem kx_b1t {b : Bool} (h : b = true) : kx_b1 b = 1 := by rw [h]; rfl
theorem kx_b1f {b : Bool} (h : ¬ b = true) : kx_b1 b = 0 := by unfold kx_b1; rw [if_neg h]
theorem kx_le_t {x : Nat} : kx_le x = true ↔ 97 ≤ x ∧ x ≤ 122 := by unfold kx_le; rw [Bool.and_eq_true, decide_eq_true_iff, decide_eq_true_iff]
theorem kx_di_t {x : Nat} : kx_di x = true ↔ 48 ≤ x ∧ x ≤ 57 := by unfold kx_di; rw [Bool.and_eq_true, decide_eq_true_iff, decide_eq_true_iff]
theorem kx_bl_t {x : Nat} : kx_bl x = true ↔ x = 9 ∨ x = 10 ∨ x = 13 ∨ x = 32 := by
  unfold kx_bl
  simp only [Bool.or_eq_true, decide_eq_true_iff]
  omega
theorem kx_sg_t {x : Nat} : kx_sg x = true ↔ x = 59 ∨ x = 61 ∨ x = 43 ∨ x = 45 ∨ x = 42 ∨ x = 47 ∨ x = 60 ∨ x = 40 ∨ x = 41 := by
  unfold kx_sg
  simp only [Bool.or_eq_true, decide_eq_true_iff]
  omega
theorem kx_eqI {n m : Nat} (hn : n < 2 ^ 31) (hm : m < 2 ^ 31) : (nI n = nI m) = (n = m) := propext (nI_eq hn hm)
theorem kx_isD_X8 {n : Nat} (hn : n < 256) (σ : kf_St) : f_X8_isDigit (nI n) σ = some (kx_b1 (kx_di n), σ) := by
  unfold f_X8_isDigit
  by_cases h1 : n < 48
  · rw [if_pos (show nI n < 48 from nI_lt (b := 48) h1 (by decide)), kx_b1f (fun e => by have := kx_di_t.mp e; omega)]
  · rw [if_neg (show ¬ nI n < 48 from nI_nlt (b := 48) (by omega) (by omega))]
    by_cases h2 : 57 < n
    · rw [if_pos (show (57 : Int32) < nI n from nI_lt (a := 57) h2 (by omega)), kx_b1f (fun e => by have := kx_di_t.mp e; omega)]
    · rw [if_neg (show ¬ (57 : Int32) < nI n from nI_nlt (a := 57) (by omega) (by decide)), kx_b1t (kx_di_t.mpr ⟨by omega, by omega⟩)]
theorem kx_isL_X8 {n : Nat} (hn : n < 256) (σ : kf_St) : f_X8_isLetter (nI n) σ = some (kx_b1 (kx_le n), σ) := by
  unfold f_X8_isLetter
  by_cases h1 : n < 97
  · rw [if_pos (show nI n < 97 from nI_lt (b := 97) h1 (by decide)), kx_b1f (fun e => by have := kx_le_t.mp e; omega)]
  · rw [if_neg (show ¬ nI n < 97 from nI_nlt (b := 97) (by omega) (by omega))]
    by_cases h2 : 122 < n
    · rw [if_pos (show (122 : Int32) < nI n from nI_lt (a := 122) h2 (by omega)), kx_b1f (fun e => by have := kx_le_t.mp e; omega)]
    · rw [if_neg (show ¬ (122 : Int32) < nI n from nI_nlt (a := 122) (by omega) (by decide)), kx_b1t (kx_le_t.mpr ⟨by omega, by omega⟩)]
theorem kx_isD_X12 {n : Nat} (hn : n < 256) (σ : kf_St) : f_X12_isDigit (nI n) σ = some (kx_b1 (kx_di n), σ) := by
  unfold f_X12_isDigit
  by_cases h1 : n < 48
  · rw [if_pos (show nI n < 48 from nI_lt (b := 48) h1 (by decide)), kx_b1f (fun e => by have := kx_di_t.mp e; omega)]
  · rw [if_neg (show ¬ nI n < 48 from nI_nlt (b := 48) (by omega) (by omega))]
    by_cases h2 : 57 < n
    · rw [if_pos (show (57 : Int32) < nI n from nI_lt (a := 57) h2 (by omega)), kx_b1f (fun e => by have := kx_di_t.mp e; omega)]
    · rw [if_neg (show ¬ (57 : Int32) < nI n from nI_nlt (a := 57) (by omega) (by decide)), kx_b1t (kx_di_t.mpr ⟨by omega, by omega⟩)]
theorem kx_isL_X12 {n : Nat} (hn : n < 256) (σ : kf_St) : f_X12_isLetter (nI n) σ = some (kx_b1 (kx_le n), σ) := by
  unfold f_X12_isLetter
  by_cases h1 : n < 97
  · rw [if_pos (show nI n < 97 from nI_lt (b := 97) h1 (by decide)), kx_b1f (fun e => by have := kx_le_t.mp e; omega)]
  · rw [if_neg (show ¬ nI n < 97 from nI_nlt (b := 97) (by omega) (by omega))]
    by_cases h2 : 122 < n
    · rw [if_pos (show (122 : Int32) < nI n from nI_lt (a := 122) h2 (by omega)), kx_b1f (fun e => by have := kx_le_t.mp e; omega)]
    · rw [if_neg (show ¬ (122 : Int32) < nI n from nI_nlt (a := 122) (by omega) (by decide)), kx_b1t (kx_le_t.mpr ⟨by omega, by omega⟩)]
theorem kx_isB {n : Nat} (hn : n < 256) (σ : kf_St) : f_X8_isBlank (nI n) σ = some (kx_b1 (kx_bl n), σ) := by
  unfold f_X8_isBlank
  by_cases h1 : n = 9
  · subst h1; rfl
  rw [if_neg (show ¬ nI n = 9 from fun e => h1 ((nI_eq (b := 9) (by omega) (by decide)).mp e))]
  by_cases h2 : n = 10
  · subst h2; rfl
  rw [if_neg (show ¬ nI n = 10 from fun e => h2 ((nI_eq (b := 10) (by omega) (by decide)).mp e))]
  by_cases h3 : n = 13
  · subst h3; rfl
  rw [if_neg (show ¬ nI n = 13 from fun e => h3 ((nI_eq (b := 13) (by omega) (by decide)).mp e))]
  by_cases h4 : n = 32
  · subst h4; rfl
  rw [if_neg (show ¬ nI n = 32 from fun e => h4 ((nI_eq (b := 32) (by omega) (by decide)).mp e)), kx_b1f (fun e => by have := kx_bl_t.mp e; omega)]
/-! the longest that can be -/
def kx_sp (p : Nat → Bool) (X : kx_X) : Nat → Nat → Nat
  | 0, i => i
  | m + 1, i => if p (X.2 i) then kx_sp p X m (i + 1) else i
def kx_en (p : Nat → Bool) (X : kx_X) (i : Nat) : Nat := kx_sp p X (X.1 - i) i
theorem kx_en_t {p : Nat → Bool} {X : kx_X} {i : Nat} (h : i < X.1) (hp : p (X.2 i) = true) : kx_en p X i = kx_en p X (i + 1) := by
  unfold kx_en
  rw [show X.1 - i = (X.1 - (i + 1)) + 1 by omega]
  exact if_pos hp
theorem kx_en_f {p : Nat → Bool} {X : kx_X} {i : Nat} (hp : i < X.1 → ¬ p (X.2 i) = true) : kx_en p X i = i := by
  unfold kx_en
  by_cases h : i < X.1
  · rw [show X.1 - i = (X.1 - (i + 1)) + 1 by omega]
    exact if_neg (hp h)
  · rw [show X.1 - i = 0 by omega]
    rfl
theorem kx_sp_ge (p : Nat → Bool) (X : kx_X) : ∀ m i, i ≤ kx_sp p X m i ∧ kx_sp p X m i ≤ i + m
  | 0, i => ⟨Nat.le_refl _, Nat.le_refl _⟩
  | m + 1, i => by
    have ih := kx_sp_ge p X m (i + 1)
    show i ≤ (if p (X.2 i) then kx_sp p X m (i + 1) else i) ∧ (if p (X.2 i) then kx_sp p X m (i + 1) else i) ≤ _
    by_cases h : p (X.2 i) = true
    · rw [if_pos h]; omega
    · rw [if_neg h]; omega
theorem kx_en_ge (p : Nat → Bool) (X : kx_X) (i : Nat) : i ≤ kx_en p X i := (kx_sp_ge p X _ i).1
theorem kx_en_le {p : Nat → Bool} {X : kx_X} {i : Nat} (h : i ≤ X.1) : kx_en p X i ≤ X.1 := by
  have := (kx_sp_ge p X (X.1 - i) i).2
  unfold kx_en
  omega
theorem kx_en_gt {p : Nat → Bool} {X : kx_X} {i : Nat} (h : i < X.1) (hp : p (X.2 i) = true) : i < kx_en p X i := by
  rw [kx_en_t h hp]
  have := kx_en_ge p X (i + 1)
  omega
theorem kx_sp_in (p : Nat → Bool) (X : kx_X) : ∀ m i j, i ≤ j → j < kx_sp p X m i → p (X.2 j) = true
  | 0, i, j, h1, h2 => by
    have : j < i := h2
    omega
  | m + 1, i, j, h1, h2 => by
    have h2 : j < (if p (X.2 i) then kx_sp p X m (i + 1) else i) := h2
    by_cases h : p (X.2 i) = true
    · rw [if_pos h] at h2
      by_cases e : i = j
      · rw [← e]; exact h
      · exact kx_sp_in p X m (i + 1) j (by omega) h2
    · rw [if_neg h] at h2; omega
theorem kx_en_in {p : Nat → Bool} {X : kx_X} {i j : Nat} (h1 : i ≤ j) (h2 : j < kx_en p X i) : p (X.2 j) = true := kx_sp_in p X _ i j h1 h2
theorem kx_en_st {p : Nat → Bool} {X : kx_X} {i : Nat} : kx_en p X i < X.1 → ¬ p (X.2 (kx_en p X i)) = true := by
  have main : ∀ m i, i + m = X.1 → kx_sp p X m i < X.1 → ¬ p (X.2 (kx_sp p X m i)) = true := by
    intro m
    induction m with
    | zero => intro i hi h; exact absurd h (by show ¬ i < X.1; omega)
    | succ m ih =>
      intro i hi
      show (if p (X.2 i) then kx_sp p X m (i + 1) else i) < X.1 → ¬ p (X.2 (if p (X.2 i) then kx_sp p X m (i + 1) else i)) = true
      by_cases h : p (X.2 i) = true
      · rw [if_pos h]; exact ih (i + 1) (by omega)
      · rw [if_neg h]; intro _; exact h
  unfold kx_en
  by_cases h : i ≤ X.1
  · exact main _ i (by omega)
  · intro h2
    have := (kx_sp_ge p X (X.1 - i) i).1
    omega
/-! words and numbers -/
def kx_wc (X : kx_X) : Nat → Nat → Int64 → Int64
  | 0, _, a => a
  | m + 1, i, a => kx_wc X m (i + 1) ((27 : Int64) * a + Int32.toInt64 ((nI (X.2 i) - 97) + 1))
def kx_nv (X : kx_X) : Nat → Nat → Nat → Nat
  | 0, _, a => a
  | m + 1, i, a => kx_nv X m (i + 1) (10 * a + (X.2 i - 48))
theorem kx_nv_lt (X : kx_X) : ∀ m i a k, a < 10 ^ k → (∀ j, i ≤ j → j < i + m → kx_di (X.2 j) = true) → kx_nv X m i a < 10 ^ (k + m)
  | 0, i, a, k, h, _ => h
  | m + 1, i, a, k, h, hd => by
    have h1 := kx_di_t.mp (hd i (Nat.le_refl _) (by omega))
    have := kx_nv_lt X m (i + 1) (10 * a + (X.2 i - 48)) (k + 1) (by rw [Nat.pow_succ]; omega) (fun j a b => hd j (by omega) (by omega))
    rw [show k + (m + 1) = k + 1 + m by omega]
    exact this
def kx_kf (v : Int64) : Nat := kp_fn (fun k => decide (kf_codes k = v)) (21 - 0) 0
def kx_kw (v : Int64) : Nat := if kx_kf v < 21 then 256 + kx_kf v else 2
/-- the token at a place that is no blank: kind, where the next is looked for, its value, its number -/
def kx_to (X : kx_X) (i : Nat) : Nat × Nat × Int64 × Nat :=
  if i < X.1 then
    if kx_le (X.2 i) then (if kx_en kx_le X i - i ≤ 8 then kx_kw (kx_wc X (kx_en kx_le X i - i) i 0) else 1, kx_en kx_le X i, kx_wc X (kx_en kx_le X i - i) i 0, 0)
    else if kx_di (X.2 i) then (if kx_en kx_di X i - i ≤ 4 then 3 else 1, kx_en kx_di X i, Int64.ofNat (kx_nv X (kx_en kx_di X i - i) i 0), kx_nv X (kx_en kx_di X i - i) i 0)
    else (if kx_sg (X.2 i) then X.2 i else 1, i + 1, 0, 0)
  else (0, i, 0, 0)
def kx_po (X : kx_X) : Nat → Nat
  | 0 => 0
  | n + 1 => (kx_to X (kx_en kx_bl X (kx_po X n))).2.1
def kx_P (X : kx_X) (n : Nat) : Nat := kx_en kx_bl X (kx_po X n)
def kx_K (X : kx_X) (n : Nat) : Nat := (kx_to X (kx_P X n)).1
def kx_V (X : kx_X) (n : Nat) : Int64 := (kx_to X (kx_P X n)).2.2.1
def kx_N (X : kx_X) (n : Nat) : Nat := (kx_to X (kx_P X n)).2.2.2
theorem kx_po_s (X : kx_X) (n : Nat) : kx_po X (n + 1) = (kx_to X (kx_P X n)).2.1 := rfl
/-- which kinds there are -/
def kx_vk (k : Nat) : Prop := k < 4 ∨ kx_sg k = true ∨ (256 ≤ k ∧ k ≤ 276)
theorem kx_kw_v (v : Int64) : kx_kw v = 2 ∨ (256 ≤ kx_kw v ∧ kx_kw v ≤ 276) := by
  unfold kx_kw
  by_cases h : kx_kf v < 21
  · rw [if_pos h]; omega
  · rw [if_neg h]; exact Or.inl rfl
theorem kx_to_cs (X : kx_X) (i : Nat) : (¬ i < X.1 ∧ kx_to X i = (0, i, 0, 0)) ∨ (i < X.1 ∧ kx_le (X.2 i) = true ∧ kx_to X i = (if kx_en kx_le X i - i ≤ 8 then kx_kw (kx_wc X (kx_en kx_le X i - i) i 0) else 1, kx_en kx_le X i, kx_wc X (kx_en kx_le X i - i) i 0, 0)) ∨ (i < X.1 ∧ ¬ kx_le (X.2 i) = true ∧ kx_di (X.2 i) = true ∧ kx_to X i = (if kx_en kx_di X i - i ≤ 4 then 3 else 1, kx_en kx_di X i, Int64.ofNat (kx_nv X (kx_en kx_di X i - i) i 0), kx_nv X (kx_en kx_di X i - i) i 0)) ∨ (i < X.1 ∧ ¬ kx_le (X.2 i) = true ∧ ¬ kx_di (X.2 i) = true ∧ kx_to X i = (if kx_sg (X.2 i) then X.2 i else 1, i + 1, 0, 0)) := by
  unfold kx_to
  by_cases h1 : i < X.1
  · rw [if_pos h1]
    by_cases h2 : kx_le (X.2 i) = true
    · rw [if_pos h2]; exact Or.inr (Or.inl ⟨h1, h2, rfl⟩)
    · rw [if_neg h2]
      by_cases h3 : kx_di (X.2 i) = true
      · rw [if_pos h3]; exact Or.inr (Or.inr (Or.inl ⟨h1, h2, h3, rfl⟩))
      · rw [if_neg h3]; exact Or.inr (Or.inr (Or.inr ⟨h1, h2, h3, rfl⟩))
  · rw [if_neg h1]; exact Or.inl ⟨h1, rfl⟩
theorem kx_to_vk (X : kx_X) (i : Nat) : kx_vk (kx_to X i).1 := by
  unfold kx_vk
  rcases kx_to_cs X i with ⟨-, e⟩ | ⟨-, -, e⟩ | ⟨-, -, -, e⟩ | ⟨-, -, -, e⟩
  · rw [e]; exact Or.inl (show 0 < 4 by decide)
  · rw [e]
    dsimp only
    by_cases h : kx_en kx_le X i - i ≤ 8
    · rw [if_pos h]
      rcases kx_kw_v (kx_wc X (kx_en kx_le X i - i) i 0) with q | q
      · rw [q]; exact Or.inl (by decide)
      · exact Or.inr (Or.inr q)
    · rw [if_neg h]; exact Or.inl (by decide)
  · rw [e]
    dsimp only
    by_cases h : kx_en kx_di X i - i ≤ 4
    · rw [if_pos h]; exact Or.inl (by decide)
    · rw [if_neg h]; exact Or.inl (by decide)
  · rw [e]
    dsimp only
    by_cases h : kx_sg (X.2 i) = true
    · rw [if_pos h]; exact Or.inr (Or.inl h)
    · rw [if_neg h]; exact Or.inl (by decide)
theorem kx_to_ge {X : kx_X} {i : Nat} (hi : i ≤ X.1) : i ≤ (kx_to X i).2.1 ∧ (kx_to X i).2.1 ≤ X.1 ∧ ((kx_to X i).1 ≠ 0 → i < (kx_to X i).2.1 ∧ i < X.1) := by
  rcases kx_to_cs X i with ⟨h, e⟩ | ⟨h, h2, e⟩ | ⟨h, h2, h3, e⟩ | ⟨h, h2, h3, e⟩
  · rw [e]; exact ⟨Nat.le_refl _, hi, fun n => absurd rfl n⟩
  · rw [e]
    exact ⟨kx_en_ge _ _ _, kx_en_le hi, fun _ => ⟨kx_en_gt h h2, h⟩⟩
  · rw [e]
    exact ⟨kx_en_ge _ _ _, kx_en_le hi, fun _ => ⟨kx_en_gt h h3, h⟩⟩
  · rw [e]
    exact ⟨by show i ≤ i + 1; omega, by show i + 1 ≤ X.1; omega, fun _ => ⟨by show i < i + 1; omega, h⟩⟩
theorem kx_po_le (X : kx_X) : ∀ n, kx_po X n ≤ X.1
  | 0 => Nat.zero_le _
  | n + 1 => (kx_to_ge (kx_en_le (kx_po_le X n))).2.1
theorem kx_P_le (X : kx_X) (n : Nat) : kx_P X n ≤ X.1 := kx_en_le (kx_po_le X n)
theorem kx_P_s {X : kx_X} {n : Nat} (h : kx_K X n ≠ 0) : kx_P X n < kx_P X (n + 1) := by
  have h1 := ((kx_to_ge (kx_P_le X n)).2.2 h).1
  have h2 := kx_en_ge kx_bl X (kx_po X (n + 1))
  rw [kx_po_s] at h2
  show _ < kx_en kx_bl X (kx_po X (n + 1))
  rw [kx_po_s]
  omega
theorem kx_P_lt {X : kx_X} {n : Nat} : ∀ m, (∀ j, j < n + 1 + m → kx_K X j ≠ 0) → kx_P X n < kx_P X (n + 1 + m)
  | 0, h => kx_P_s (h n (by omega))
  | m + 1, h => Nat.lt_trans (kx_P_lt m (fun j hj => h j (by omega))) (kx_P_s (h (n + 1 + m) (by omega)))
theorem kx_N3 {X : kx_X} {n : Nat} (h : kx_K X n = 3) : kx_N X n < 10000 ∧ kx_V X n = Int64.ofNat (kx_N X n) := by
  unfold kx_K kx_N kx_V at *
  rcases kx_to_cs X (kx_P X n) with ⟨h1, e⟩ | ⟨h1, h2, e⟩ | ⟨h1, h2, h3, e⟩ | ⟨h1, h2, h3, e⟩
  · rw [e] at h; exact absurd (show 0 = 3 from h) (by decide)
  · rw [e] at h
    have h : (if _ then _ else _) = 3 := h
    by_cases q : kx_en kx_le X (kx_P X n) - kx_P X n ≤ 8
    · rw [if_pos q] at h
      rcases kx_kw_v (kx_wc X (kx_en kx_le X (kx_P X n) - kx_P X n) (kx_P X n) 0) with q | q <;> omega
    · rw [if_neg q] at h; exact absurd h (by decide)
  · rw [e] at h ⊢
    have h : (if _ then _ else _) = 3 := h
    by_cases q : kx_en kx_di X (kx_P X n) - kx_P X n ≤ 4
    · refine ⟨?_, rfl⟩
      have := kx_nv_lt X (kx_en kx_di X (kx_P X n) - kx_P X n) (kx_P X n) 0 0 (by decide) (fun j a b => kx_en_in (p := kx_di) (i := kx_P X n) a (by omega))
      exact Nat.lt_of_lt_of_le this (Nat.pow_le_pow_right (n := 10) (j := 4) (by decide) (by omega))
    · rw [if_neg q] at h; exact absurd h (by decide)
  · rw [e] at h
    have h : (if _ then _ else _) = 3 := h
    by_cases q : kx_sg (X.2 (kx_P X n)) = true
    · rw [if_pos q] at h
      have := kx_sg_t.mp q
      omega
    · rw [if_neg q] at h; exact absurd h (by decide)
def kx_ok (X : kx_X) (n : Nat) : Prop := n ≤ 400 ∧ ∀ j, j < n → kx_K X j ≠ 0 ∧ kx_K X j ≠ 1
theorem kx_ok0 (X : kx_X) : kx_ok X 0 := ⟨Nat.zero_le _, fun j h => absurd h (Nat.not_lt_zero j)⟩
theorem kx_ok_s {X : kx_X} {n : Nat} (h : kx_ok X n) (h4 : n < 400) (h0 : kx_K X n ≠ 0) (h1 : kx_K X n ≠ 1) : kx_ok X (n + 1) := ⟨h4, fun j hj => by
  by_cases e : j = n
  · rw [e]; exact ⟨h0, h1⟩
  · exact h.2 j (by omega)⟩
