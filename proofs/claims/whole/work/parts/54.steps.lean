/-! ===== pure: a DOOR, and what laws tell of it ===== -/
/-- parts, lifted, idle, rubbed, money, today -/
abbrev kp_D : Type := (Nat → Int32) × Int32 × Int32 × Int32 × Int32 × Int32
def kd_cut (f : Nat → Int32) : Nat → Int32 := fun p => if p < 4 then f p else 0
theorem kd_cut_at {f : Nat → Int32} {p : Nat} (h : p < 4) : kd_cut f p = f p := if_pos h
def kp_cD (σ : kf_St) (k : Nat) : kp_D := (kd_cut (σ.1 (k + 1)), σ.1 k 1, σ.1 k 2, σ.1 k 3, σ.1 k 4, σ.1 k 5)
def kp_mD (σ : kf_St) (R d : Nat) : kp_D := (kd_cut (fun p => σ.1 R (4 * d + p)), σ.1 R (24 + d), σ.1 R (30 + d), σ.1 R (36 + d), σ.1 R (42 + d), σ.1 R (48 + d))
def kp_va (ap pt li id dy fa un wh ru : Int32) : Nat → Int32 := fun i => [ap, pt, li, id, dy, fa, un, wh, ru].getD i 0
def kp_wn (v a b : Int32) : Int32 := if v < a then a else if b < v then b else v
/-- what a law tells of a part: L, the door, the goal's face, which, the part, the day -/
def kp_st (L : kp_Lw) (D : kp_D) (g : Nat → Int32) (w p : Nat) (dy : Int32) : Int32 := kp_wn (L (kp_va (kp_of (D.1 p) (g p)) (nI p) D.2.1 D.2.2.1 dy (D.1 p) (kp_un D.1 g) (nI w) D.2.2.2.1)) 0 (kp_of (D.1 p) (g p))
def kp_py (L : kp_Lw) (D : kp_D) (g : Nat → Int32) (w : Nat) (dy : Int32) : Int32 := kp_wn (L (kp_va 0 0 D.2.1 D.2.2.1 dy 0 (kp_un D.1 g) (nI w) D.2.2.2.1)) 0 99
theorem kp_wn0 (v : Int32) : kp_wn v 0 0 = 0 := by
  unfold kp_wn
  by_cases h1 : v < 0
  · rw [if_pos h1]
  · rw [if_neg h1]
    by_cases h2 : 0 < v
    · rw [if_pos h2]
    · rw [if_neg h2]
      apply Int32.toInt_inj.mp
      have a : ¬ v.toInt < (0 : Int32).toInt := fun e => h1 (kp_ltI.mpr e)
      have b : ¬ (0 : Int32).toInt < v.toInt := fun e => h2 (kp_ltI.mpr e)
      omega
theorem kp_wnC {q a : Int32} (ha : 0 ≤ a) : (if 0 < (if q < a then q else a) then (if q < a then q else a) else 0) = kp_wn q 0 a := by
  unfold kp_wn
  have ha' := kp_leI.mp ha
  by_cases h1 : q < a
  · rw [if_pos h1]
    by_cases h2 : 0 < q
    · rw [if_pos h2, if_neg (fun e => by have := kp_ltI.mp h2; have := kp_ltI.mp e; omega), if_neg (fun e => by have := kp_ltI.mp h1; have := kp_ltI.mp e; omega)]
    · rw [if_neg h2]
      by_cases h3 : q < 0
      · rw [if_pos h3]
      · rw [if_neg h3, if_neg (fun e => by have := kp_ltI.mp h1; have := kp_ltI.mp e; omega)]
        apply Int32.toInt_inj.mp
        have x : ¬ q.toInt < (0 : Int32).toInt := fun e => h3 (kp_ltI.mpr e)
        have y : ¬ (0 : Int32).toInt < q.toInt := fun e => h2 (kp_ltI.mpr e)
        omega
  · rw [if_neg h1]
    have h1' : ¬ q.toInt < a.toInt := fun e => h1 (kp_ltI.mpr e)
    have h3 : ¬ q < 0 := fun e => by have := kp_ltI.mp e; omega
    rw [if_neg h3]
    by_cases h2 : 0 < a
    · rw [if_pos h2]
      by_cases h4 : a < q
      · rw [if_pos h4]
      · rw [if_neg h4]
        apply Int32.toInt_inj.mp
        have y : ¬ a.toInt < q.toInt := fun e => h4 (kp_ltI.mpr e)
        omega
    · rw [if_neg h2]
      have e0 : a = 0 := by
        apply Int32.toInt_inj.mp
        have y : ¬ (0 : Int32).toInt < a.toInt := fun e => h2 (kp_ltI.mpr e)
        omega
      by_cases h4 : a < q
      · rw [if_pos h4, e0]
      · rw [if_neg h4]
        apply Int32.toInt_inj.mp
        have y : ¬ a.toInt < q.toInt := fun e => h4 (kp_ltI.mpr e)
        rw [e0] at y h1'
        omega
theorem kp_sm0 {x : Int32} (h : kp_sm x) : 0 ≤ x := by
  obtain ⟨n, hn, rfl⟩ := h
  exact nI_pos' (by omega)
/-- the cells of a knocker -/
def kp_isK (k : Nat) : Prop := kf_rf k 0 = k + 1 ∧ kf_ln (k + 1) = 4 ∧ (46 ≤ k ∧ k ≤ 56 ∨ k = 67)
theorem kp_isK_d {d : Nat} (h : d < 6) : kp_isK (46 + 2 * d) := by
  rcases (show d = 0 ∨ d = 1 ∨ d = 2 ∨ d = 3 ∨ d = 4 ∨ d = 5 by omega) with rfl | rfl | rfl | rfl | rfl | rfl <;> exact ⟨rfl, rfl, by decide⟩
theorem kp_isK_t : kp_isK 67 := ⟨rfl, rfl, by decide⟩
/-- vars, as a look fills them -/
def kp_lk (σ : kf_St) (k : Nat) (w un dy : Int32) : kf_St := kf_wi (kf_wi (kf_wi (kf_wi (kf_wi (kf_wi σ 64 2 (σ.1 k 1)) 64 3 (σ.1 k 2)) 64 8 (σ.1 k 3)) 64 4 dy) 64 6 un) 64 7 w
theorem kp_look {σ : kf_St} {k : Nat} (hk : k ≠ 64) (w un dy : Int32) : f_X4_look 63 k w un dy σ = some (kp_lk σ k w un dy) := by
  unfold f_X4_look
  simp (disch := omega) only [↓reduceIte, kz_lt, Option.bind_some, kz_ix, kz_leT, kz_leF, kz_ltT, kz_ltF, kz_lt0, kz_0le, kz_0ltT, kz_le0F, kz_eq0F, kz_10, kz_00, kz_11, kz_01, nI_clamp, nI_1, nI_add, pk_mul, kc0, kc1, kc2, kc3, kc4, kc5, kc6, kc7, kc8, kc9, kc10, kx0, kx1, kx2, kx3, kx4, kx5, kx6, kx7, kx8, kr0_0, kr0_1, kr0_2, kr0_3, kr0_4, kr0_5, kr0_6, kr0_7, kr0_8, kr0_9, kr1_1, kr1_2, kr1_3, kr1_4, kr1_5, kr7_6, kr7_7, kr7_8, kr7_9, kr7_10, kr7_11, kr7_12, kr7_13, kr7_14, kr7_15, kr7_16, kr16_1, kr16_2, kr19_1, kr19_2, kr22_1, kr22_2, kr25_6, kr25_7, kr25_8, kr25_9, kr25_10, kr25_11, kr25_12, kr25_13, kr25_14, kr25_15, kr25_16, kr34_1, kr34_2, kr37_1, kr37_2, kr40_1, kr40_2, kr43_2, kr43_3, kr44_0, kr44_1, kr44_4, kr46_0, kr48_0, kr50_0, kr52_0, kr54_0, kr56_0, kr60_3, kr60_4, kr63_0, kr63_1, kr63_2, kr66_0, kr66_1, kr66_2, kr66_3, kr66_4, kr67_0, kr70_0, kr70_1, kr70_2, kr72_1, kr72_2, kr72_3, kr72_4, kr72_5, kr72_6, kr72_7, kl2, kl3, kl4, kl5, kl6, kl8, kl9, kl10, kl11, kl12, kl13, kl14, kl15, kl17, kl18, kl20, kl21, kl23, kl24, kl26, kl27, kl28, kl29, kl30, kl31, kl32, kl33, kl35, kl36, kl38, kl39, kl41, kl42, kl45, kl47, kl49, kl51, kl53, kl55, kl57, kl58, kl59, kl61, kl62, kl64, kl65, kl68, kl69, kl71, kl73, kl74, kl75, kl76, kz_row hk]
  rfl
theorem kp_lk_ch (σ : kf_St) (k : Nat) (w un dy : Int32) : kp_ch (fun r => r = 64) σ (kp_lk σ k w un dy) := by
  have h0 : kp_ch (fun r => r = 64) σ σ := kp_ch.rf
  exact kp_ch.wi (S := fun r => r = 64) (kp_ch.wi (S := fun r => r = 64) (kp_ch.wi (S := fun r => r = 64) (kp_ch.wi (S := fun r => r = 64) (kp_ch.wi (S := fun r => r = 64) (kp_ch.wi (S := fun r => r = 64) h0 rfl) rfl) rfl) rfl) rfl) rfl
theorem kp_va9 (σ : kf_St) (k : Nat) (w un dy ap pt fa : Int32) : ∀ i, i < 9 → (kf_wi (kf_wi (kf_wi (kp_lk σ k w un dy) 64 0 ap) 64 1 pt) 64 5 fa).1 64 i = kp_va ap pt (σ.1 k 1) (σ.1 k 2) dy fa un w (σ.1 k 3) i := by
  intro i hi
  rcases (show i = 0 ∨ i = 1 ∨ i = 2 ∨ i = 3 ∨ i = 4 ∨ i = 5 ∨ i = 6 ∨ i = 7 ∨ i = 8 by omega) with rfl | rfl | rfl | rfl | rfl | rfl | rfl | rfl | rfl <;> rfl
theorem kp_va9p (σ : kf_St) (k : Nat) (w un dy : Int32) : ∀ i, i < 9 → (kf_wi (kf_wi (kf_wi (kp_lk σ k w un dy) 64 0 0) 64 1 0) 64 5 0).1 64 i = kp_va 0 0 (σ.1 k 1) (σ.1 k 2) dy 0 un w (σ.1 k 3) i := kp_va9 σ k w un dy 0 0 0
theorem kp_stepOf {σ : kf_St} {a k g w p : Nat} {L : kp_Lw} {dy : Int32} {gf : Nat → Int32} (hL : kp_LC a L σ) (h9 : kp_L9 L) (ha : a ≠ 64 ∧ a + 1 ≠ 64) (hk : kp_isK k) (hg : 4 * w + 4 ≤ kf_ln g) (hg2 : kf_ln g < 2 ^ 30) (hgf : ∀ q, q < 4 → σ.1 g (4 * w + q) = gf q) (hs : ∀ q, q < 4 → kp_sm (σ.1 (k + 1) q)) (hs2 : ∀ q, q < 4 → kp_sm (gf q)) (hp : p < 4) : ∃ σ', f_X4_stepOf 63 a k g (nI w) (nI p) dy σ = some (kp_st L (kp_cD σ k) gf w p dy, σ') ∧ kp_ch (fun r => r = 64 ∨ r = a + 2) σ σ' := by
  obtain ⟨hk1, hk2, hkk⟩ := hk
  have hk3 : k ≠ 64 := by omega
  have hk4 : k + 1 ≠ 64 := by omega
  unfold f_X4_stepOf
  simp (disch := omega) only [↓reduceIte, kz_lt, Option.bind_some, kz_ix, kz_leT, kz_leF, kz_ltT, kz_ltF, kz_lt0, kz_0le, kz_0ltT, kz_le0F, kz_eq0F, kz_10, kz_00, kz_11, kz_01, nI_clamp, nI_1, nI_add, pk_mul, kn2, kn3, kn4, kn5, kn6, kn7, kn8, kn9, kn10, kn16, kn20, kn24, kn30, kn32, kn36, kn40, kn41, kn42, kn48, kn54, kn60, kn61, kn64, kn69, kn70, kn99, kn100, kc0, kc1, kc2, kc3, kc4, kc5, kc6, kc7, kc8, kc9, kc10, kx0, kx1, kx2, kx3, kx4, kx5, kx6, kx7, kx8, kr0_0, kr0_1, kr0_2, kr0_3, kr0_4, kr0_5, kr0_6, kr0_7, kr0_8, kr0_9, kr1_1, kr1_2, kr1_3, kr1_4, kr1_5, kr7_6, kr7_7, kr7_8, kr7_9, kr7_10, kr7_11, kr7_12, kr7_13, kr7_14, kr7_15, kr7_16, kr16_1, kr16_2, kr19_1, kr19_2, kr22_1, kr22_2, kr25_6, kr25_7, kr25_8, kr25_9, kr25_10, kr25_11, kr25_12, kr25_13, kr25_14, kr25_15, kr25_16, kr34_1, kr34_2, kr37_1, kr37_2, kr40_1, kr40_2, kr43_2, kr43_3, kr44_0, kr44_1, kr44_4, kr46_0, kr48_0, kr50_0, kr52_0, kr54_0, kr56_0, kr60_3, kr60_4, kr63_0, kr63_1, kr63_2, kr66_0, kr66_1, kr66_2, kr66_3, kr66_4, kr67_0, kr70_0, kr70_1, kr70_2, kr72_1, kr72_2, kr72_3, kr72_4, kr72_5, kr72_6, kr72_7, kl2, kl3, kl4, kl5, kl6, kl8, kl9, kl10, kl11, kl12, kl13, kl14, kl15, kl17, kl18, kl20, kl21, kl23, kl24, kl26, kl27, kl28, kl29, kl30, kl31, kl32, kl33, kl35, kl36, kl38, kl39, kl41, kl42, kl45, kl47, kl49, kl51, kl53, kl55, kl57, kl58, kl59, kl61, kl62, kl64, kl65, kl68, kl69, kl71, kl73, kl74, kl75, kl76, hk1, hk2, hgf p hp, kz_row hk4]
  have eap : (if 0 ≤ σ.1 (k + 1) p - gf p then σ.1 (k + 1) p - gf p else 0 - (σ.1 (k + 1) p - gf p)) = kp_of (σ.1 (k + 1) p) (gf p) := kp_ab_of (hs p hp) (hs2 p hp)
  rw [eap]
  have eD : (kp_cD σ k).1 p = σ.1 (k + 1) p := kd_cut_at hp
  have eU : kp_un (kp_cD σ k).1 gf = kp_un (fun q => σ.1 (k + 1) (4 * 0 + q)) (fun q => σ.1 g (4 * w + q)) := kp_un_congr (fun q hq => by
    show kd_cut (σ.1 (k + 1)) q = _
    rw [kd_cut_at hq, Nat.mul_zero, Nat.zero_add]) (fun q hq => (hgf q hq).symm)
  by_cases h0 : kp_of (σ.1 (k + 1) p) (gf p) = 0
  · rw [if_pos h0]
    refine ⟨σ, ?_, kp_ch.rf⟩
    unfold kp_st
    rw [eD, h0, kp_wn0]
  · rw [if_neg h0]
    have hd := kp_diff σ (a := k + 1) (b := g) (i := 0) (j := w) (by omega) hg (by omega) hg2 (fun q hq => by rw [Nat.mul_zero, Nat.zero_add]; exact hs q hq) (fun q hq => by rw [hgf q hq]; exact hs2 q hq)
    rw [← eU] at hd
    have hd' : f_X10_difference (k + 1) 0 g (nI w) σ = _ := hd
    have hrow : (kp_lk σ k (nI w) (kp_un (kp_cD σ k).1 gf) dy).1 (k + 1) p = σ.1 (k + 1) p := by
      rw [(kp_lk_ch σ k _ _ _).1 (k + 1) hk4]
    simp only [hd', Option.bind_some, kp_look hk3, hrow]
    have hch : kp_ch (fun r => r = 64) σ (kf_wi (kf_wi (kf_wi (kp_lk σ k (nI w) (kp_un (kp_cD σ k).1 gf) dy) 64 0 (kp_of (σ.1 (k + 1) p) (gf p))) 64 1 (nI p)) 64 5 (σ.1 (k + 1) p)) := kp_ch.wi (S := fun r => r = 64) (kp_ch.wi (S := fun r => r = 64) (kp_ch.wi (S := fun r => r = 64) (kp_lk_ch σ k _ _ _) rfl) rfl) rfl
    obtain ⟨σ'', h1, h2⟩ := hL _ (hch.1 a ha.1) (hch.1 (a + 1) ha.2)
    rw [h1, Option.bind_some]
    refine ⟨σ'', ?_, (hch.mono (fun r h => Or.inl h)).tr (h2.mono (fun r h => Or.inr h))⟩
    dsimp only
    rw [kp_wnC (kp_sm0 (kp_of_sm (hs p hp) (hs2 p hp)))]
    rw [h9 _ _ (kp_va9 σ k (nI w) (kp_un (kp_cD σ k).1 gf) dy (kp_of (σ.1 (k + 1) p) (gf p)) (nI p) (σ.1 (k + 1) p))]
    unfold kp_st
    rw [eD]
    rfl
