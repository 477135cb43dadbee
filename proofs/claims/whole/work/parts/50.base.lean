/-! ===== pure: words for the functions over the store ===== -/
theorem kf_ixN {n N : Nat} (h : n < N) (hN : N < 2 ^ 31) : kf_ix (nI n) N = true := decide_eq_true (vp_in_nI h hN)
theorem kf_F_gt {n : Nat} (h : n < 1000000) : n < kf_F := h
theorem kp_n4 (i p : Nat) : (4 : Int32) * nI i + nI p = nI (4 * i + p) := by
  rw [show (4 : Int32) = nI 4 from rfl, pk_mul, nI_add]
/-- only the rows in S may have changed -/
def kp_ch (S : Nat → Prop) (σ σ' : kf_St) : Prop := (∀ k, ¬ S k → σ'.1 k = σ.1 k) ∧ σ'.2 = σ.2
theorem kp_ch.rf {S : Nat → Prop} {σ : kf_St} : kp_ch S σ σ := ⟨fun _ _ => rfl, rfl⟩
theorem kp_ch.tr {S : Nat → Prop} {a b c : kf_St} (h1 : kp_ch S a b) (h2 : kp_ch S b c) : kp_ch S a c := ⟨fun k hk => (h2.1 k hk).trans (h1.1 k hk), h2.2.trans h1.2⟩
theorem kp_ch.wi {S : Nat → Prop} {σ σ' : kf_St} (h : kp_ch S σ σ') {k j : Nat} {v : Int32} (hk : S k) : kp_ch S σ (kf_wi σ' k j v) := ⟨fun a ha => (kf_wi_o (a := a) (k := k) (fun e => ha (by rw [e]; exact hk))).trans (h.1 a ha), h.2⟩
theorem kp_ch.mono {S T : Nat → Prop} {σ σ' : kf_St} (h : kp_ch S σ σ') (hST : ∀ k, S k → T k) : kp_ch T σ σ' := ⟨fun k hk => h.1 k (fun e => hk (hST k e)), h.2⟩
theorem kp_wi_at (σ : kf_St) (k j : Nat) (v : Int32) (a b : Nat) : (kf_wi σ k j v).1 a b = if a = k ∧ b = j then v else σ.1 a b := rfl
theorem kp_wi_2 (σ : kf_St) (k j : Nat) (v : Int32) : (kf_wi σ k j v).2 = σ.2 := rfl
theorem kp_wi_same (σ : kf_St) (k j : Nat) (v : Int32) : (kf_wi σ k j v).1 k j = v := by rw [kp_wi_at, if_pos ⟨rfl, rfl⟩]
theorem kp_wi_row {σ : kf_St} {k j a : Nat} {v : Int32} (h : a ≠ k) (b : Nat) : (kf_wi σ k j v).1 a b = σ.1 a b := by rw [kp_wi_at, if_neg (fun e => h e.1)]
theorem kp_wi_col {σ : kf_St} {k j b : Nat} {v : Int32} (h : b ≠ j) (a : Nat) : (kf_wi σ k j v).1 a b = σ.1 a b := by rw [kp_wi_at, if_neg (fun e => h e.2)]
theorem kp_fuel {n : Nat} (h : 0 < n) : ∃ m, n = m + 1 := ⟨n - 1, by omega⟩
/-- how much two numbers differ: the class's words, the reference's -/
def kp_ab (x y : Int32) : Int32 := if 0 ≤ x - y then x - y else 0 - (x - y)
def kp_of (x y : Int32) : Int32 := if y ≤ x then x - y else y - x
/-- small: 0 .. 99 -/
def kp_sm (x : Int32) : Prop := ∃ n : Nat, n < 100 ∧ x = nI n
theorem kp_ab_of {x y : Int32} (hx : kp_sm x) (hy : kp_sm y) : kp_ab x y = kp_of x y := by
  obtain ⟨a, ha, rfl⟩ := hx
  obtain ⟨b, hb, rfl⟩ := hy
  unfold kp_ab kp_of
  by_cases h : b ≤ a
  · rw [if_pos (nI_le h (by omega)), pk_sub h, if_pos (nI_pos' (by omega))]
  · have h1 : nI a - nI b < 0 := pk_sneg (by omega) (by omega)
    rw [if_neg (nI_ge (by omega) (by omega)), if_neg (fun e => absurd h1 (Int32.not_lt.mpr e))]
    have e : (0 : Int32) - (nI a - nI b) = nI b - nI a := by rw [Int32.zero_sub, Int32.neg_sub]
    rw [e]
theorem kp_of_sm {x y : Int32} (hx : kp_sm x) (hy : kp_sm y) : kp_sm (kp_of x y) := by
  obtain ⟨a, ha, rfl⟩ := hx
  obtain ⟨b, hb, rfl⟩ := hy
  unfold kp_of
  by_cases h : b ≤ a
  · rw [if_pos (nI_le h (by omega)), pk_sub h]
    exact ⟨a - b, by omega, rfl⟩
  · rw [if_neg (nI_ge (by omega) (by omega)), pk_sub (by omega)]
    exact ⟨b - a, by omega, rfl⟩
theorem kp_sum_congr {f g : Nat → Int32} : ∀ n, (∀ p, p < n → f p = g p) → l_sum f n = l_sum g n
  | 0, _ => rfl
  | n + 1, h => by
    show l_sum f n + f n = l_sum g n + g n
    rw [kp_sum_congr n (fun p hp => h p (by omega)), h n (by omega)]
/-- UNLIKE of two faces -/
def kp_un (f g : Nat → Int32) : Int32 := l_sum (fun p => kp_of (f p) (g p)) 4
/-! the class: difference -/
theorem kp_diff_loop {σ : kf_St} {a b i j : Nat} (hi : 4 * i + 4 ≤ kf_ln a) (hj : 4 * j + 4 ≤ kf_ln b) (la : kf_ln a < 2 ^ 30) (lb : kf_ln b < 2 ^ 30) : ∀ (m p : Nat), p + m = 4 → ∀ fuel, m < fuel → f_X10_difference_6 fuel a (nI i) b (nI j) (l_sum (fun p => kp_ab (σ.1 a (4 * i + p)) (σ.1 b (4 * j + p))) p) (nI p) σ = some (l_sum (fun p => kp_ab (σ.1 a (4 * i + p)) (σ.1 b (4 * j + p))) 4, σ) := by
  intro m
  induction m with
  | zero =>
    intro p hp fuel hf
    obtain ⟨n, rfl⟩ := kp_fuel (show 0 < fuel by omega)
    obtain rfl : p = 4 := by omega
    show f_X10_difference_6_s _ a (nI i) b (nI j) _ (nI 4) σ = _
    unfold f_X10_difference_6_s
    rw [if_pos (by decide)]
  | succ m ih =>
    intro p hp fuel hf
    obtain ⟨n, rfl⟩ := kp_fuel (show 0 < fuel by omega)
    show f_X10_difference_6_s _ a (nI i) b (nI j) _ (nI p) σ = _
    unfold f_X10_difference_6_s
    rw [if_neg (show ¬ (4 : Int32) ≤ nI p from nI_ge (a := p) (b := 4) (by omega) (by omega))]
    simp only [kf_lt, kp_n4]
    rw [if_neg (nI_pos (by omega)), if_neg (nI_ge (by omega) (by omega)), if_neg (nI_pos (by omega)), if_neg (nI_ge (by omega) (by omega)), if_pos (kf_ixN (by omega) (by omega)), if_pos (kf_ixN (by omega) (by omega)), nI_clamp (by omega), nI_clamp (by omega)]
    unfold f_X10_difference_69
    simp only [kf_lt]
    rw [nI_1]
    exact ih (p + 1) (by omega) n (by omega)
theorem kp_diff (σ : kf_St) {a b i j : Nat} (hi : 4 * i + 4 ≤ kf_ln a) (hj : 4 * j + 4 ≤ kf_ln b) (la : kf_ln a < 2 ^ 30) (lb : kf_ln b < 2 ^ 30) (hx : ∀ p, p < 4 → kp_sm (σ.1 a (4 * i + p))) (hy : ∀ p, p < 4 → kp_sm (σ.1 b (4 * j + p))) : f_X10_difference a (nI i) b (nI j) σ = some (kp_un (fun p => σ.1 a (4 * i + p)) (fun p => σ.1 b (4 * j + p)), σ) := by
  have h := kp_diff_loop (σ := σ) hi hj la lb 4 0 rfl kf_F (kf_F_gt (by decide))
  unfold f_X10_difference
  refine h.trans ?_
  rw [kp_sum_congr (g := fun p => kp_of (σ.1 a (4 * i + p)) (σ.1 b (4 * j + p))) 4 (fun p hp => kp_ab_of (hx p hp) (hy p hp))]
  rfl
