/-! ===== pure: the class's laws tell what their lists tell ===== -/
/-- a pile, its top first -/
def kx_sk (f : Nat → Int32) : List Int32 → Prop
  | [] => True
  | x :: r => f r.length = x ∧ kx_sk f r
theorem kx_sk_c {f g : Nat → Int32} : ∀ (st : List Int32), (∀ i, i < st.length → g i = f i) → kx_sk f st → kx_sk g st
  | [], _, _ => True.intro
  | x :: r, h, q => ⟨(h r.length (Nat.lt_succ_self _)).trans q.1, kx_sk_c r (fun i hi => h i (Nat.lt_succ_of_lt hi)) q.2⟩
theorem kx_enc {v k : Nat} (hv : v < 2 ^ 20) (hk : k < 8) : (nI v <<< ((3 : Int32) &&& 31)) ||| nI k = nI (8 * v + k) := by
  apply Int32.toBitVec_inj.mp
  apply BitVec.eq_of_toNat_eq
  have e1 : (nI v).toBitVec = BitVec.ofNat 32 v := rfl
  have e2 : (nI k).toBitVec = BitVec.ofNat 32 k := rfl
  have e3 : (nI (8 * v + k)).toBitVec = BitVec.ofNat 32 (8 * v + k) := rfl
  have e4 : (((3 : Int32) &&& 31).toBitVec.smod 32) = 3#32 := by decide
  rw [Int32.toBitVec_or, Int32.toBitVec_shiftLeft, e4, e1, e2, e3, BitVec.toNat_or, BitVec.shiftLeft_eq', BitVec.toNat_shiftLeft]
  simp only [BitVec.toNat_ofNat]
  rw [Nat.mod_eq_of_lt (show v < 2 ^ 32 by omega), Nat.mod_eq_of_lt (show k < 2 ^ 32 by omega), Nat.mod_eq_of_lt (show 8 * v + k < 2 ^ 32 by omega)]
  rw [show 3 % 2 ^ 32 = 3 from rfl, Nat.mod_eq_of_lt (by rw [Nat.shiftLeft_eq]; omega), ← Nat.shiftLeft_add_eq_or_of_lt (by omega), Nat.shiftLeft_eq]
  omega
theorem kx_dk {v k : Nat} (hv : v < 2 ^ 20) (hk : k < 8) : nI (8 * v + k) &&& 7 = nI k := by
  apply Int32.toBitVec_inj.mp
  apply BitVec.eq_of_toNat_eq
  have e2 : (nI k).toBitVec = BitVec.ofNat 32 k := rfl
  have e3 : (nI (8 * v + k)).toBitVec = BitVec.ofNat 32 (8 * v + k) := rfl
  rw [Int32.toBitVec_and, BitVec.toNat_and, e2, e3, BitVec.toNat_ofNat, BitVec.toNat_ofNat, show (7 : Int32).toBitVec.toNat = 2 ^ 3 - 1 from rfl, Nat.and_two_pow_sub_one_eq_mod]
  omega
theorem kx_dn {v k : Nat} (hv : v < 2 ^ 20) (hk : k < 8) : nI (8 * v + k) >>> ((3 : Int32) &&& 31) = nI v := by
  apply Int32.toBitVec_inj.mp
  apply BitVec.eq_of_toNat_eq
  have e1 : (nI v).toBitVec = BitVec.ofNat 32 v := rfl
  have e3 : (nI (8 * v + k)).toBitVec = BitVec.ofNat 32 (8 * v + k) := rfl
  have e4 : (((3 : Int32) &&& 31).toBitVec.smod 32) = 3#32 := by decide
  have m : (BitVec.ofNat 32 (8 * v + k)).msb = false := by
    rw [BitVec.msb_eq_false_iff_two_mul_lt, BitVec.toNat_ofNat]
    omega
  rw [Int32.toBitVec_shiftRight, e4, e1, e3, BitVec.sshiftRight_eq', BitVec.sshiftRight_eq_of_msb_false m, BitVec.toNat_ushiftRight]
  simp only [BitVec.toNat_ofNat]
  rw [show 3 % 2 ^ 32 = 3 from rfl, Nat.shiftRight_eq_div_pow]
  omega
/-- the steps from a place on -/
def kx_ca (c : Nat → Int32) : Nat → List kx_o → Prop
  | _, [] => True
  | p, o :: l => c p = nI (8 * o.2 + o.1) ∧ kx_ca c (p + 1) l
theorem kx_ca_app (c : Nat → Int32) : ∀ (l1 : List kx_o) {l2 : List kx_o} {p : Nat}, kx_ca c p (l1 ++ l2) ↔ kx_ca c p l1 ∧ kx_ca c (p + l1.length) l2
  | [], l2, p => ⟨fun h => ⟨True.intro, h⟩, fun h => h.2⟩
  | o :: l1, l2, p => by
    have e : p + (o :: l1).length = p + 1 + l1.length := by rw [List.length_cons]; omega
    rw [e]
    exact ⟨fun h => ⟨⟨h.1, ((kx_ca_app c l1).mp h.2).1⟩, ((kx_ca_app c l1).mp h.2).2⟩, fun h => ⟨h.1.1, (kx_ca_app c l1).mpr ⟨h.1.2, h.2⟩⟩⟩
theorem kx_ca_c {c d : Nat → Int32} : ∀ (l : List kx_o) {p : Nat}, (∀ i, p ≤ i → i < p + l.length → d i = c i) → kx_ca c p l → kx_ca d p l
  | [], p, _, _ => True.intro
  | o :: l, p, h, q => ⟨(h p (Nat.le_refl _) (by rw [List.length_cons]; omega)).trans q.1, kx_ca_c l (fun i h1 h2 => h i (by omega) (by rw [List.length_cons]; omega)) q.2⟩
def kx_bc (p : Nat) (b : List kx_o × List kx_o × List kx_o) : List kx_o := b.1 ++ b.2.1 ++ [(6, p + b.1.length + b.2.1.length + b.2.2.length + 2)] ++ b.2.2 ++ [(7, 0)]
theorem kx_bc_l (p : Nat) (b : List kx_o × List kx_o × List kx_o) : (kx_bc p b).length = b.1.length + b.2.1.length + b.2.2.length + 2 := by
  unfold kx_bc
  rw [List.length_append, List.length_append, List.length_append, List.length_append]
  show _ + _ + 1 + _ + 1 = _
  omega
def kx_cp : Nat → List (List kx_o × List kx_o × List kx_o) → List kx_o
  | _, [] => []
  | p, b :: bs => kx_bc p b ++ kx_cp (p + (kx_bc p b).length) bs
theorem kx_cp_s : ∀ (bs : List (List kx_o × List kx_o × List kx_o)) (p : Nat) (b : List kx_o × List kx_o × List kx_o), kx_cp p (bs ++ [b]) = kx_cp p bs ++ kx_bc (p + (kx_cp p bs).length) b
  | [], p, b => by
    show kx_bc p b ++ [] = [] ++ kx_bc (p + 0) b
    rw [List.append_nil, List.nil_append]
    rfl
  | c :: bs, p, b => by
    show kx_bc p c ++ kx_cp _ (bs ++ [b]) = kx_bc p c ++ kx_cp _ bs ++ kx_bc (p + (kx_bc p c ++ kx_cp _ bs).length) b
    rw [kx_cp_s bs, List.length_append, List.append_assoc, Nat.add_assoc]
def kx_cs (w : kx_w) : List kx_o := kx_cp 0 w.1 ++ w.2 ++ [(7, 0)]
/-- the class's law at a has these steps -/
def kx_CW (a : Nat) (w : kx_w) (σ : kf_St) : Prop := (kx_cs w).length ≤ 401 ∧ σ.1 a 0 = nI (kx_cs w).length ∧ kx_ca (σ.1 (a + 1)) 0 (kx_cs w)
theorem kx_m2 (m : Nat) : nI (m + 2) + (-2) = nI m := by
  rw [← nI_add m 2, Int32.add_assoc, show nI 2 + (-2 : Int32) = 0 from rfl, Int32.add_zero]
theorem kx_m1 (m : Nat) : nI (m + 1) + (-1) = nI m := by
  rw [← nI_add m 1, Int32.add_assoc, show nI 1 + (-1 : Int32) = 0 from rfl, Int32.add_zero]
theorem kx_s2 (m : Nat) : nI (m + 2) - 2 = nI m := by
  rw [← nI_add m 2]; exact Int32.add_sub_cancel (nI m) 2
theorem kx_s1 (m : Nat) : nI (m + 1) - 1 = nI m := by
  rw [← nI_1]; exact Int32.add_sub_cancel (nI m) 1
/-- where a law lies -/
def kx_la (a : Nat) : Prop := a + 2 < 64 ∧ kf_rf a 1 = a + 1 ∧ kf_rf a 2 = a + 2 ∧ kf_ln (a + 1) = 401 ∧ kf_ln (a + 2) = 20
theorem kx_joi {k : Nat} (hk : 2 ≤ k ∧ k ≤ 5) {x y : Int32} (h : ¬ (k = 5 ∧ y = 0)) (σ : kf_St) : f_X2_joined (nI k) x y σ = some (kx_op k x y, σ) := by
  unfold f_X2_joined kx_op
  by_cases h2 : k = 2
  · subst h2; rfl
  rw [if_neg (show ¬ nI k = 2 from fun e => h2 ((nI_eq (b := 2) (by omega) (by decide)).mp e)), if_neg h2]
  by_cases h3 : k = 3
  · subst h3; rfl
  rw [if_neg (show ¬ nI k = 3 from fun e => h3 ((nI_eq (b := 3) (by omega) (by decide)).mp e)), if_neg h3]
  by_cases h4 : k = 4
  · subst h4; rfl
  have h5 : k = 5 := by omega
  have hy : ¬ y = 0 := fun e => h ⟨h5, e⟩
  rw [if_neg (show ¬ nI k = 4 from fun e => h4 ((nI_eq (b := 4) (by omega) (by decide)).mp e)), if_neg h4, if_neg hy, if_neg hy]
theorem kC_run {a n : Nat} (ha : kx_la a) (hn : n ≤ 401) : ∀ (l : List kx_o) (st : List Int32) (p i f g : Nat) (σ : kf_St), σ.1 a 0 = nI n → kx_ca (σ.1 (a + 1)) p l → p + l.length < n → i ≤ p → kx_wf l st.length 20 g → st.length ≤ 20 → kx_sk (σ.1 (a + 2)) st → (kx_ev (σ.1 64) l st = none → ∃ τ, f_X2_worth_7 (f + l.length) a 64 (nI st.length) (nI p) (nI i) σ = some (0, τ) ∧ kp_ch (fun k => k = a + 2) σ τ) ∧ (∀ r, kx_ev (σ.1 64) l st = some r → ∃ τ, f_X2_worth_7 (f + l.length) a 64 (nI st.length) (nI p) (nI i) σ = f_X2_worth_7 f a 64 (nI r.length) (nI (p + l.length)) (nI (i + l.length)) τ ∧ kp_ch (fun k => k = a + 2) σ τ ∧ kx_sk (τ.1 (a + 2)) r)
  | [], st, p, i, f, g, σ, h0, hc, hp, hi, hw, hs, hk => by
    refine ⟨fun e => (by cases e), fun r e => ?_⟩
    have e : some st = some r := e
    cases e
    exact ⟨σ, rfl, kp_ch.rf, hk⟩
  | o :: l, st, p, i, f, g, σ, h0, hc, hp, hi, hw, hs, hk => by
    obtain ⟨a64, ra1, ra2, la1, la2⟩ := ha
    obtain ⟨k, v⟩ := o
    have hw : (if k < 2 then st.length + 1 ≤ 20 ∧ v < 10000 ∧ (k = 1 → v < 9) ∧ kx_wf l (st.length + 1) 20 g else 2 ≤ st.length ∧ k ≤ 5 ∧ v = 0 ∧ kx_wf l (st.length - 1) 20 g) := hw
    have c1 : σ.1 (a + 1) p = nI (8 * v + k) := hc.1
    have c2 := hc.2
    have hp : p + (l.length + 1) < n := hp
    have eS : f_X2_worth_7 (f + ((k, v) :: l).length) a 64 (nI st.length) (nI p) (nI i) σ = f_X2_worth_7_s (f_X2_worth_7 (f + l.length)) a 64 (nI st.length) (nI p) (nI i) σ := rfl
    rw [eS, show p + ((k, v) :: l).length = p + 1 + l.length by rw [List.length_cons]; omega, show i + ((k, v) :: l).length = i + 1 + l.length by rw [List.length_cons]; omega]
    by_cases k2 : k < 2
    · rw [if_pos k2] at hw
      obtain ⟨w1, w2, w3, w4⟩ := hw
      have e7 : ¬ nI k = 7 := fun e => absurd ((nI_eq (b := 7) (by omega) (by decide)).mp e) (by omega)
      have dk := kx_dk (v := v) (k := k) (by omega) (by omega)
      have dn := kx_dn (v := v) (k := k) (by omega) (by omega)
      have main : ∃ x, kx_ev (σ.1 64) ((k, v) :: l) st = kx_ev (σ.1 64) l (x :: st) ∧ f_X2_worth_7_s (f_X2_worth_7 (f + l.length)) a 64 (nI st.length) (nI p) (nI i) σ = f_X2_worth_7 (f + l.length) a 64 (nI (st.length + 1)) (nI (p + 1)) (nI (i + 1)) (kf_wi σ (a + 2) st.length x) := by
        by_cases k0 : k = 0
        · refine ⟨nI v, by rw [k0]; rfl, ?_⟩
          unfold f_X2_worth_7_s f_X2_worth_83 f_X2_worth_115 f_X2_worth_209
          have dk0 : nI (8 * v + k) &&& 7 = 0 := by rw [dk, k0]; rfl
          have e7 : ((0 : Int32) = 7) = False := eq_false (by decide)
          simp only [kf_lt]
          rw [h0, if_neg (nI_ge (by omega) (by omega)), if_neg (nI_ge (by omega) (by omega)), ra1, la1, if_pos (kf_ixN (by omega) (by decide)), if_pos (kf_ixN (by omega) (by decide)), nI_clamp (by omega), c1, dk0, dn]
          rw [if_neg (show ¬ (0 : Int32) = 7 by decide), if_pos rfl, ra2, la2, if_pos (nI_lt (by omega) (by decide)), if_pos rfl, if_pos (kf_ixN (by omega) (by decide)), nI_clamp (by omega), nI_1, nI_1, nI_1]
        · have k1 : k = 1 := by omega
          refine ⟨σ.1 64 v, by rw [k1]; rfl, ?_⟩
          have v9 := w3 k1
          unfold f_X2_worth_7_s f_X2_worth_83 f_X2_worth_115 f_X2_worth_209
          have dk1 : nI (8 * v + k) &&& 7 = 1 := by rw [dk, k1]; rfl
          have l64 : kf_ln 64 = 9 := rfl
          have vo : f_X2_valueOf 64 (nI v) σ = some (σ.1 64 v, σ) := by
            unfold f_X2_valueOf
            rw [l64, if_neg (nI_pos (by omega)), if_neg (nI_ge (by omega) (by decide)), if_pos (kf_ixN (by omega) (by decide)), nI_clamp (by omega)]
          simp only [kf_lt]
          rw [h0, if_neg (nI_ge (by omega) (by omega)), if_neg (nI_ge (by omega) (by omega)), ra1, la1, if_pos (kf_ixN (by omega) (by decide)), if_pos (kf_ixN (by omega) (by decide)), nI_clamp (by omega), c1, dk1, dn]
          rw [if_neg (show ¬ (1 : Int32) = 7 by decide), if_neg (show ¬ (1 : Int32) = 0 by decide), if_pos rfl, ra2, la2, if_pos (nI_lt (by omega) (by decide)), if_neg (show ¬ (1 : Int32) = 0 by decide), vo, Option.bind_some, if_pos (kf_ixN (by omega) (by decide)), nI_clamp (by omega), nI_1, nI_1, nI_1]
      obtain ⟨x, m1, m2⟩ := main
      rw [m1, m2]
      have ch : kp_ch (fun k => k = a + 2) σ (kf_wi σ (a + 2) st.length x) := kp_ch.rf.wi rfl
      have q := kC_run ⟨a64, ra1, ra2, la1, la2⟩ hn l (x :: st) (p + 1) (i + 1) f g (kf_wi σ (a + 2) st.length x) (by rw [kp_wi_row (by omega)]; exact h0) (kx_ca_c l (fun j _ _ => kp_wi_row (by omega) j) c2) (by omega) (by omega) w4 w1 ⟨kp_wi_same _ _ _ _, kx_sk_c st (fun j hj => kp_wi_col (by omega) _) hk⟩
      rw [show (kf_wi σ (a + 2) st.length x).1 64 = σ.1 64 from funext (fun j => kp_wi_row (by omega) j)] at q
      refine ⟨fun e => ?_, fun r e => ?_⟩
      · obtain ⟨τ, t1, t2⟩ := q.1 e
        exact ⟨τ, t1, ch.tr t2⟩
      · obtain ⟨τ, t1, t2, t3⟩ := q.2 r e
        exact ⟨τ, t1, ch.tr t2, t3⟩
    · rw [if_neg k2] at hw
      obtain ⟨w1, w2, w3, w4⟩ := hw
      match st, w1, w4, hs, hk with
      | [], w1, _, _, _ => exact absurd w1 (by decide)
      | [_], w1, _, _, _ => exact absurd w1 (by show ¬ 2 ≤ 1; decide)
      | y :: x :: r, w1, w4, hs, hk =>
        have ky : σ.1 (a + 2) (r.length + 1) = y := hk.1
        have kx : σ.1 (a + 2) r.length = x := hk.2.1
        have hs : r.length + 1 + 1 ≤ 20 := hs
        have e7 : ¬ nI k = 7 := fun e => absurd ((nI_eq (b := 7) (by omega) (by decide)).mp e) (by omega)
        have e0 : ¬ nI k = 0 := fun e => absurd ((nI_eq (b := 0) (by omega) (by decide)).mp e) (by omega)
        have e1 : ¬ nI k = 1 := fun e => absurd ((nI_eq (b := 1) (by omega) (by decide)).mp e) (by omega)
        have e6 : ¬ nI k = 6 := fun e => absurd ((nI_eq (b := 6) (by omega) (by decide)).mp e) (by omega)
        have dk := kx_dk (v := v) (k := k) (by omega) (by omega)
        have dn := kx_dn (v := v) (k := k) (by omega) (by omega)
        have l2 : (2 ≤ nI (r.length + 2)) = True := eq_true (nI_le (a := 2) (by omega) (by omega))
        have el : kx_ev (σ.1 64) ((k, v) :: l) (y :: x :: r) = if k = 5 ∧ y = 0 then none else kx_ev (σ.1 64) l (kx_op k x y :: r) := by
          show (if k = 0 then _ else if k = 1 then _ else _) = _
          rw [if_neg (by omega), if_neg (by omega)]
        rw [el, show (y :: x :: r).length = r.length + 2 from rfl]
        by_cases h5 : k = 5 ∧ y = 0
        · rw [if_pos h5]
          refine ⟨fun _ => ⟨σ, ?_, kp_ch.rf⟩, fun r e => (by cases e)⟩
          have e5 : (nI k = 5) = True := eq_true (by rw [h5.1]; rfl)
          have y0 : (y = 0) = True := eq_true h5.2
          unfold f_X2_worth_7_s
          simp (disch := omega) only [↓reduceIte, kz_lt, Option.bind_some, kz_ix, kz_leT, kz_leF, kz_ltT, kz_ltF, kz_lt0, kz_0le, kz_0ltT, kz_le0F, kz_eq0F, kz_10, kz_00, kz_11, kz_01, nI_clamp, nI_1, nI_add, pk_mul, kc0, kc1, kc2, kc3, kc4, kc5, kc6, kc7, kc8, kc9, kc10, kx0, kx1, kx2, kx3, kx4, kx5, kx6, kx7, kx8, kr0_0, kr0_1, kr0_2, kr0_3, kr0_4, kr0_5, kr0_6, kr0_7, kr0_8, kr0_9, kr1_1, kr1_2, kr1_3, kr1_4, kr1_5, kr7_6, kr7_7, kr7_8, kr7_9, kr7_10, kr7_11, kr7_12, kr7_13, kr7_14, kr7_15, kr7_16, kr16_1, kr16_2, kr19_1, kr19_2, kr22_1, kr22_2, kr25_6, kr25_7, kr25_8, kr25_9, kr25_10, kr25_11, kr25_12, kr25_13, kr25_14, kr25_15, kr25_16, kr34_1, kr34_2, kr37_1, kr37_2, kr40_1, kr40_2, kr43_2, kr43_3, kr44_0, kr44_1, kr44_4, kr46_0, kr48_0, kr50_0, kr52_0, kr54_0, kr56_0, kr60_3, kr60_4, kr63_0, kr63_1, kr63_2, kr66_0, kr66_1, kr66_2, kr66_3, kr66_4, kr67_0, kr70_0, kr70_1, kr70_2, kr72_1, kr72_2, kr72_3, kr72_4, kr72_5, kr72_6, kr72_7, kl2, kl3, kl4, kl5, kl6, kl8, kl9, kl10, kl11, kl12, kl13, kl14, kl15, kl17, kl18, kl20, kl21, kl23, kl24, kl26, kl27, kl28, kl29, kl30, kl31, kl32, kl33, kl35, kl36, kl38, kl39, kl41, kl42, kl45, kl47, kl49, kl51, kl53, kl55, kl57, kl58, kl59, kl61, kl62, kl64, kl65, kl68, kl69, kl71, kl73, kl74, kl75, kl76, h0, ra1, ra2, la1, la2, c1, dk, dn, e7, e0, e1, l2, kx_s1, kx_s2, ky, kx, e5, y0]
        · rw [if_neg h5]
          have jo := kx_joi (k := k) (by omega) (x := x) (y := y) h5 σ
          have st1 : f_X2_worth_7_s (f_X2_worth_7 (f + l.length)) a 64 (nI (r.length + 2)) (nI p) (nI i) σ = f_X2_worth_7 (f + l.length) a 64 (nI (r.length + 1)) (nI (p + 1)) (nI (i + 1)) (kf_wi σ (a + 2) r.length (kx_op k x y)) := by
            unfold f_X2_worth_7_s f_X2_worth_162 f_X2_worth_209
            by_cases q5 : k = 5
            · have e5 : (nI k = 5) = True := eq_true (by rw [q5]; rfl)
              have y0 : (y = 0) = False := eq_false (fun e => h5 ⟨q5, e⟩)
              simp (disch := omega) only [↓reduceIte, kz_lt, Option.bind_some, kz_ix, kz_leT, kz_leF, kz_ltT, kz_ltF, kz_lt0, kz_0le, kz_0ltT, kz_le0F, kz_eq0F, kz_10, kz_00, kz_11, kz_01, nI_clamp, nI_1, nI_add, pk_mul, kc0, kc1, kc2, kc3, kc4, kc5, kc6, kc7, kc8, kc9, kc10, kx0, kx1, kx2, kx3, kx4, kx5, kx6, kx7, kx8, kr0_0, kr0_1, kr0_2, kr0_3, kr0_4, kr0_5, kr0_6, kr0_7, kr0_8, kr0_9, kr1_1, kr1_2, kr1_3, kr1_4, kr1_5, kr7_6, kr7_7, kr7_8, kr7_9, kr7_10, kr7_11, kr7_12, kr7_13, kr7_14, kr7_15, kr7_16, kr16_1, kr16_2, kr19_1, kr19_2, kr22_1, kr22_2, kr25_6, kr25_7, kr25_8, kr25_9, kr25_10, kr25_11, kr25_12, kr25_13, kr25_14, kr25_15, kr25_16, kr34_1, kr34_2, kr37_1, kr37_2, kr40_1, kr40_2, kr43_2, kr43_3, kr44_0, kr44_1, kr44_4, kr46_0, kr48_0, kr50_0, kr52_0, kr54_0, kr56_0, kr60_3, kr60_4, kr63_0, kr63_1, kr63_2, kr66_0, kr66_1, kr66_2, kr66_3, kr66_4, kr67_0, kr70_0, kr70_1, kr70_2, kr72_1, kr72_2, kr72_3, kr72_4, kr72_5, kr72_6, kr72_7, kl2, kl3, kl4, kl5, kl6, kl8, kl9, kl10, kl11, kl12, kl13, kl14, kl15, kl17, kl18, kl20, kl21, kl23, kl24, kl26, kl27, kl28, kl29, kl30, kl31, kl32, kl33, kl35, kl36, kl38, kl39, kl41, kl42, kl45, kl47, kl49, kl51, kl53, kl55, kl57, kl58, kl59, kl61, kl62, kl64, kl65, kl68, kl69, kl71, kl73, kl74, kl75, kl76, h0, ra1, ra2, la1, la2, c1, dk, dn, e7, e0, e1, e6, l2, kx_s1, kx_s2, kx_m1, ky, kx, e5, y0, jo]
            · have e5 : ¬ nI k = 5 := fun e => q5 ((nI_eq (b := 5) (by omega) (by decide)).mp e)
              simp (disch := omega) only [↓reduceIte, kz_lt, Option.bind_some, kz_ix, kz_leT, kz_leF, kz_ltT, kz_ltF, kz_lt0, kz_0le, kz_0ltT, kz_le0F, kz_eq0F, kz_10, kz_00, kz_11, kz_01, nI_clamp, nI_1, nI_add, pk_mul, kc0, kc1, kc2, kc3, kc4, kc5, kc6, kc7, kc8, kc9, kc10, kx0, kx1, kx2, kx3, kx4, kx5, kx6, kx7, kx8, kr0_0, kr0_1, kr0_2, kr0_3, kr0_4, kr0_5, kr0_6, kr0_7, kr0_8, kr0_9, kr1_1, kr1_2, kr1_3, kr1_4, kr1_5, kr7_6, kr7_7, kr7_8, kr7_9, kr7_10, kr7_11, kr7_12, kr7_13, kr7_14, kr7_15, kr7_16, kr16_1, kr16_2, kr19_1, kr19_2, kr22_1, kr22_2, kr25_6, kr25_7, kr25_8, kr25_9, kr25_10, kr25_11, kr25_12, kr25_13, kr25_14, kr25_15, kr25_16, kr34_1, kr34_2, kr37_1, kr37_2, kr40_1, kr40_2, kr43_2, kr43_3, kr44_0, kr44_1, kr44_4, kr46_0, kr48_0, kr50_0, kr52_0, kr54_0, kr56_0, kr60_3, kr60_4, kr63_0, kr63_1, kr63_2, kr66_0, kr66_1, kr66_2, kr66_3, kr66_4, kr67_0, kr70_0, kr70_1, kr70_2, kr72_1, kr72_2, kr72_3, kr72_4, kr72_5, kr72_6, kr72_7, kl2, kl3, kl4, kl5, kl6, kl8, kl9, kl10, kl11, kl12, kl13, kl14, kl15, kl17, kl18, kl20, kl21, kl23, kl24, kl26, kl27, kl28, kl29, kl30, kl31, kl32, kl33, kl35, kl36, kl38, kl39, kl41, kl42, kl45, kl47, kl49, kl51, kl53, kl55, kl57, kl58, kl59, kl61, kl62, kl64, kl65, kl68, kl69, kl71, kl73, kl74, kl75, kl76, h0, ra1, ra2, la1, la2, c1, dk, dn, e7, e0, e1, e6, l2, kx_s1, kx_s2, kx_m1, ky, kx, e5, jo]
          rw [st1]
          have ch : kp_ch (fun k => k = a + 2) σ (kf_wi σ (a + 2) r.length (kx_op k x y)) := kp_ch.rf.wi rfl
          have q := kC_run ⟨a64, ra1, ra2, la1, la2⟩ hn l (kx_op k x y :: r) (p + 1) (i + 1) f g (kf_wi σ (a + 2) r.length (kx_op k x y)) (by rw [kp_wi_row (by omega)]; exact h0) (kx_ca_c l (fun j _ _ => kp_wi_row (by omega) j) c2) (by omega) (by omega) w4 (by show r.length + 1 ≤ 20; omega) ⟨kp_wi_same _ _ _ _, kx_sk_c r (fun j hj => kp_wi_col (by omega) _) hk.2.2⟩
          rw [show (kf_wi σ (a + 2) r.length (kx_op k x y)).1 64 = σ.1 64 from funext (fun j => kp_wi_row (by omega) j)] at q
          refine ⟨fun e => ?_, fun r' e => ?_⟩
          · obtain ⟨τ, t1, t2⟩ := q.1 e
            exact ⟨τ, t1, ch.tr t2⟩
          · obtain ⟨τ, t1, t2, t3⟩ := q.2 r' e
            exact ⟨τ, t1, ch.tr t2, t3⟩
theorem kC_ans {a n p i f : Nat} {σ : kf_St} {z : Int32} (ha : kx_la a) (hn : n ≤ 401) (h0 : σ.1 a 0 = nI n) (hp : p < n) (hi : i ≤ p) (hc : σ.1 (a + 1) p = nI (8 * 0 + 7)) (hs : kx_sk (σ.1 (a + 2)) [z]) : f_X2_worth_7 (f + 1) a 64 (nI 1) (nI p) (nI i) σ = some (z, σ) := by
  obtain ⟨a64, ra1, ra2, la1, la2⟩ := ha
  show f_X2_worth_7_s _ a 64 (nI 1) (nI p) (nI i) σ = _
  unfold f_X2_worth_7_s
  have dk : nI (8 * 0 + 7) &&& 7 = 7 := rfl
  have z0 : σ.1 (a + 2) 0 = z := hs.1
  simp only [kf_lt]
  rw [h0, if_neg (nI_ge (by omega) (by omega)), if_neg (nI_ge (by omega) (by omega)), ra1, la1, if_pos (kf_ixN (by omega) (by decide)), if_pos (kf_ixN (by omega) (by decide)), nI_clamp (by omega), hc, dk, if_pos rfl, if_neg (by decide), ra2, la2, if_pos (by decide), show (nI 1 - 1).toNatClampNeg = 0 from rfl, z0]
theorem kC_unl {a n p i f t : Nat} {σ : kf_St} {x y : Int32} (ha : kx_la a) (hn : n ≤ 401) (h0 : σ.1 a 0 = nI n) (hp : p < n) (hi : i ≤ p) (ht : t < 2 ^ 20) (hc : σ.1 (a + 1) p = nI (8 * t + 6)) (hs : kx_sk (σ.1 (a + 2)) [y, x]) : f_X2_worth_7 (f + 1) a 64 (nI 2) (nI p) (nI i) σ = f_X2_worth_7 f a 64 (nI 0) (if x < y then nI (p + 1) else nI t) (nI (i + 1)) σ := by
  obtain ⟨a64, ra1, ra2, la1, la2⟩ := ha
  show f_X2_worth_7_s _ a 64 (nI 2) (nI p) (nI i) σ = _
  unfold f_X2_worth_7_s f_X2_worth_162 f_X2_worth_185 f_X2_worth_209
  have dk : nI (8 * t + 6) &&& 7 = 6 := kx_dk ht (by decide)
  have dn := kx_dn (v := t) (k := 6) ht (by decide)
  have zy : σ.1 (a + 2) 1 = y := hs.1
  have zx : σ.1 (a + 2) 0 = x := hs.2.1
  simp only [kf_lt]
  rw [h0, if_neg (nI_ge (by omega) (by omega)), if_neg (nI_ge (by omega) (by omega)), ra1, la1, if_pos (kf_ixN (by omega) (by decide)), if_pos (kf_ixN (by omega) (by decide)), nI_clamp (by omega), hc, dk, dn, if_neg (by decide), if_neg (by decide), if_neg (by decide), if_pos (by decide), ra2, la2, if_pos (by decide), if_pos (by decide), if_neg (by decide), if_pos rfl, show (nI 2 - 1).toNatClampNeg = 1 from rfl, show (nI 2 - 2).toNatClampNeg = 0 from rfl, zy, zx, show nI 2 + (-2) = nI 0 from rfl]
  by_cases h : x < y
  · rw [if_neg (Int32.not_le.mpr h), if_pos h, nI_1, nI_1]
  · rw [if_pos (Int32.not_lt.mp h), if_neg h, nI_1]
theorem kC_ter {a n p i f : Nat} {σ : kf_St} (ha : kx_la a) (hn : n ≤ 401) {l : List kx_o} (hl : kx_1 l) (h0 : σ.1 a 0 = nI n) (hp : p + l.length < n) (hi : i ≤ p) (hc : kx_ca (σ.1 (a + 1)) p (l ++ [(7, 0)])) : ∃ τ, f_X2_worth_7 (f + 1 + l.length) a 64 (nI 0) (nI p) (nI i) σ = some ((kx_va (σ.1 64) l).getD 0, τ) ∧ kp_ch (fun k => k = a + 2) σ τ := by
  obtain ⟨c1, c2⟩ := (kx_ca_app _ l).mp hc
  have w := hl 0 20 (by omega)
  have q := kC_run ha hn l [] p i (f + 1) 1 σ h0 c1 hp hi w (by decide) True.intro
  unfold kx_va
  rcases kx_ev_h (v := σ.1 64) l [] w with e | ⟨r, e, hr⟩
  · rw [e]
    exact q.1 e
  · obtain ⟨τ, t1, t2, t3⟩ := q.2 r e
    match r, hr, e, t1, t3 with
    | [z], _, e, t1, t3 =>
      rw [e]
      refine ⟨τ, ?_, t2⟩
      have a1 := ha.1
      refine t1.trans (kC_ans ha hn ((congrFun (t2.1 a (by omega)) 0).trans h0) hp (by omega) ?_ t3)
      rw [t2.1 (a + 1) (by omega)]
      exact c2.1
theorem kC_brs {a n : Nat} (ha : kx_la a) (hn : n ≤ 401) {E : List kx_o} (hE : kx_1 E) : ∀ (bs : List (List kx_o × List kx_o × List kx_o)) (p i f : Nat) (σ : kf_St), (∀ b, b ∈ bs → kx_1 b.1 ∧ kx_1 b.2.1 ∧ kx_1 b.2.2) → σ.1 a 0 = nI n → kx_ca (σ.1 (a + 1)) p (kx_cp p bs ++ (E ++ [(7, 0)])) → p + (kx_cp p bs ++ (E ++ [(7, 0)])).length ≤ n → i ≤ p → (kx_cp p bs ++ (E ++ [(7, 0)])).length ≤ f → ∃ τ, f_X2_worth_7 f a 64 (nI 0) (nI p) (nI i) σ = some (kx_lb E (σ.1 64) bs, τ) ∧ kp_ch (fun k => k = a + 2) σ τ
  | [], p, i, f, σ, _, h0, hc, hp, hi, hf => by
    have hc : kx_ca (σ.1 (a + 1)) p (E ++ [(7, 0)]) := hc
    have lE : (E ++ [((7 : Nat), (0 : Nat))]).length = E.length + 1 := by rw [List.length_append]; rfl
    have hp : p + (E ++ [((7 : Nat), (0 : Nat))]).length ≤ n := hp
    have hf : (E ++ [((7 : Nat), (0 : Nat))]).length ≤ f := hf
    rw [lE] at hp hf
    rw [show f = (f - (E.length + 1)) + 1 + E.length by omega]
    exact kC_ter ha hn hE h0 (by omega) hi hc
  | b :: bs, p, i, f, σ, hb, h0, hc, hp, hi, hf => by
    have a1 := ha.1
    have hb0 := hb b (List.mem_cons_self ..)
    have lb := kx_bc_l p b
    have hc : kx_ca (σ.1 (a + 1)) p (kx_bc p b ++ kx_cp (p + (kx_bc p b).length) bs ++ (E ++ [(7, 0)])) := hc
    have hp : p + (kx_bc p b ++ kx_cp (p + (kx_bc p b).length) bs ++ (E ++ [((7 : Nat), (0 : Nat))])).length ≤ n := hp
    have hf : (kx_bc p b ++ kx_cp (p + (kx_bc p b).length) bs ++ (E ++ [((7 : Nat), (0 : Nat))])).length ≤ f := hf
    rw [List.append_assoc, kx_ca_app] at hc
    rw [List.append_assoc, List.length_append] at hp hf
    obtain ⟨cb, cr⟩ := hc
    obtain ⟨L1, L2, L3⟩ := b
    obtain ⟨w1, w2, w3⟩ := hb0
    have w1 : kx_1 L1 := w1
    have w2 : kx_1 L2 := w2
    have w3 : kx_1 L3 := w3
    have cb : kx_ca (σ.1 (a + 1)) p (L1 ++ L2 ++ [(6, p + L1.length + L2.length + L3.length + 2)] ++ L3 ++ [(7, 0)]) := cb
    have lb : (kx_bc p (L1, L2, L3)).length = L1.length + L2.length + L3.length + 2 := lb
    generalize hB : kx_bc p (L1, L2, L3) = B at lb cr hp hf
    generalize hR : (kx_cp (p + B.length) bs ++ (E ++ [((7 : Nat), (0 : Nat))])) = R at cr hp hf
    rw [List.append_assoc, List.append_assoc, List.append_assoc, kx_ca_app, kx_ca_app] at cb
    obtain ⟨d1, d2, d3⟩ := cb
    have du : σ.1 (a + 1) (p + L1.length + L2.length) = nI (8 * (p + L1.length + L2.length + L3.length + 2) + 6) := d3.1
    have d4 : kx_ca (σ.1 (a + 1)) (p + L1.length + L2.length + 1) (L3 ++ [(7, 0)]) := d3.2
    show ∃ τ, f_X2_worth_7 f a 64 (nI 0) (nI p) (nI i) σ = some (match kx_va (σ.1 64) L1, kx_va (σ.1 64) L2 with
      | some x, some y => if x < y then (kx_va (σ.1 64) L3).getD 0 else kx_lb E (σ.1 64) bs
      | _, _ => 0, τ) ∧ kp_ch (fun k => k = a + 2) σ τ
    have q1 := kC_run ha hn L1 [] p i (f - L1.length) 1 σ h0 d1 (by omega) hi (w1 0 20 (by omega)) (by decide) True.intro
    rw [show f - L1.length + L1.length = f by omega] at q1
    unfold kx_va
    rcases kx_ev_h (v := σ.1 64) L1 [] (w1 0 20 (by omega)) with e | ⟨r, e, hr⟩
    · rw [e]
      exact q1.1 e
    · obtain ⟨τ, t1, t2, t3⟩ := q1.2 r e
      match r, hr, e, t1, t3 with
      | [x], _, e, t1, t3 =>
        rw [e]
        have h0' : τ.1 a 0 = nI n := (congrFun (t2.1 a (by omega)) 0).trans h0
        have e1' : τ.1 (a + 1) = σ.1 (a + 1) := t2.1 (a + 1) (by omega)
        have e64 : τ.1 64 = σ.1 64 := t2.1 64 (by omega)
        have q2 := kC_run ha hn L2 [x] (p + L1.length) (i + L1.length) (f - L1.length - L2.length) 2 τ h0' (by rw [e1']; exact d2) (by omega) (by omega) (w2 1 20 (by omega)) (by show 1 ≤ 20; decide) t3
        rw [show f - L1.length - L2.length + L2.length = f - L1.length by omega, e64] at q2
        have bb := kx_ev_b (v := σ.1 64) L2 [] [x] (w2 0 20 (by omega))
        rw [List.nil_append] at bb
        rcases kx_ev_h (v := σ.1 64) L2 [] (w2 0 20 (by omega)) with e2 | ⟨r2, e2, hr2⟩
        · rw [e2] at bb ⊢
          obtain ⟨τ2, s1, s2⟩ := q2.1 bb
          exact ⟨τ2, t1.trans s1, t2.tr s2⟩
        · rw [e2] at bb ⊢
          obtain ⟨τ2, s1, s2, s3⟩ := q2.2 _ bb
          match r2, hr2, s1, s3 with
          | [y], _, s1, s3 =>
            have s1 : f_X2_worth_7 (f - L1.length) a 64 (nI 1) (nI (p + L1.length)) (nI (i + L1.length)) τ = f_X2_worth_7 (f - L1.length - L2.length) a 64 (nI 2) (nI (p + L1.length + L2.length)) (nI (i + L1.length + L2.length)) τ2 := s1
            have t2' := t2.tr s2
            have h02 : τ2.1 a 0 = nI n := (congrFun (t2'.1 a (by omega)) 0).trans h0
            have e12 : τ2.1 (a + 1) = σ.1 (a + 1) := t2'.1 (a + 1) (by omega)
            have e642 : τ2.1 64 = σ.1 64 := t2'.1 64 (by omega)
            have s3 : kx_sk (τ2.1 (a + 2)) [y, x] := s3
            have u := kC_unl (t := p + L1.length + L2.length + L3.length + 2) (f := f - L1.length - L2.length - 1) (i := i + L1.length + L2.length) (p := p + L1.length + L2.length) ha hn h02 (by omega) (by omega) (by omega) (by rw [e12]; exact du) s3
            rw [show f - L1.length - L2.length - 1 + 1 = f - L1.length - L2.length by omega] at u
            have go := t1.trans (s1.trans u)
            show ∃ τ, f_X2_worth_7 f a 64 (nI 0) (nI p) (nI i) σ = some (if x < y then ((kx_ev (σ.1 64) L3 []).map (fun st => st.headD 0)).getD 0 else kx_lb E (σ.1 64) bs, τ) ∧ kp_ch (fun k => k = a + 2) σ τ
            by_cases hxy : x < y
            · rw [if_pos hxy] at go ⊢
              obtain ⟨τ3, v1, v2⟩ := kC_ter (f := f - L1.length - L2.length - 2 - L3.length) (i := i + L1.length + L2.length + 1) (p := p + L1.length + L2.length + 1) ha hn w3 h02 (by omega) (by omega) (by rw [e12]; exact d4)
              rw [show f - L1.length - L2.length - 2 - L3.length + 1 + L3.length = f - L1.length - L2.length - 1 by omega, e642] at v1
              exact ⟨τ3, go.trans v1, t2'.tr v2⟩
            · rw [if_neg hxy] at go ⊢
              obtain ⟨τ3, v1, v2⟩ := kC_brs ha hn hE bs (p + B.length) (i + L1.length + L2.length + 1) (f - L1.length - L2.length - 1) τ2 (fun c hc => hb c (List.mem_cons_of_mem _ hc)) h02 (by rw [e12, hR]; exact cr) (by rw [hR]; omega) (by omega) (by rw [hR]; omega)
              rw [show p + B.length = p + L1.length + L2.length + L3.length + 2 by omega, e642] at v1
              exact ⟨τ3, go.trans v1, t2'.tr v2⟩
theorem kC_law {a : Nat} {w : kx_w} {σ : kf_St} (ha : kx_la a) (hw : kx_wok w) (h : kx_CW a w σ) : kp_LC a (kx_lv w) σ := by
  intro σ' e0 e1
  obtain ⟨h1, h2, h3⟩ := h
  have ass : kx_cs w = kx_cp 0 w.1 ++ (w.2 ++ [(7, 0)]) := by unfold kx_cs; rw [List.append_assoc]
  rw [ass] at h3
  have l0 : (kx_cp 0 w.1 ++ (w.2 ++ [((7 : Nat), (0 : Nat))])).length = (kx_cs w).length := by rw [ass]
  have kF : 401 ≤ kf_F := by decide
  exact kC_brs ha h1 hw.2 w.1 0 0 kf_F σ' hw.1 (by rw [e0]; exact h2) (by rw [e1]; exact h3) (by rw [l0]; omega) (Nat.le_refl _) (by rw [l0]; omega)
