/-! printed by program out of the class: kinds of the cells, lengths, references, types of fields -/
def kf_kl : List Nat := [12, 9, 52, 51, 50, 50, 51, 11, 51, 51, 50, 50, 50, 50, 50, 50, 3, 50, 50, 3, 50, 50, 3, 50, 50, 11, 51, 51, 50, 50, 50, 50, 50, 50, 3, 50, 50, 3, 50, 50, 3, 50, 50, 7, 8, 54, 2, 50, 2, 50, 2, 50, 2, 50, 2, 50, 2, 50, 50, 50, 4, 50, 50, 5, 50, 50, 1, 2, 50, 50, 6, 50, 10, 50, 50, 50, 50, 13, 52, 52, 50, 50, 50, 51, 51, 51, 50, 50, 50, 50, 50, 50, 50, 50, 50, 50, 50, 50, 50, 50, 50, 53, 50, 50, 50, 50, 50, 50, 50, 50, 50, 50, 50, 50, 50, 50, 50, 50, 50, 50, 53, 50]
def kf_lnl : List Nat := [0, 0, 2000, 21, 401, 401, 401, 0, 6, 5, 24, 20, 10, 10, 10, 10, 0, 401, 20, 0, 401, 20, 0, 401, 20, 0, 6, 5, 24, 20, 10, 10, 10, 10, 0, 401, 20, 0, 401, 20, 0, 401, 20, 0, 0, 6, 0, 4, 0, 4, 0, 4, 0, 4, 0, 4, 0, 4, 5, 24, 0, 2440, 183, 0, 9, 4, 0, 0, 4, 624, 0, 224, 0, 20, 20, 20, 3, 0, 2000, 2000, 403, 403, 403, 403, 21, 11, 11, 2, 48, 2, 40, 2, 20, 20, 20, 20, 2, 2, 2, 6, 6, 260, 260, 260, 260, 260, 840, 840, 64, 9, 400, 70, 70, 4, 2800, 224, 5, 20, 20, 20, 3, 210]
def kf_rfl : List (List Nat) := [[1, 7, 25, 43, 44, 60, 63, 66, 70, 72], [0, 2, 3, 4, 5, 6, 0, 0, 0], [], [], [], [], [], [0, 0, 0, 0, 0, 0, 8, 9, 10, 11, 12, 13, 14, 15, 16, 19, 22], [], [], [], [], [], [], [], [], [0, 17, 18], [], [], [0, 20, 21], [], [], [0, 23, 24], [], [], [0, 0, 0, 0, 0, 0, 26, 27, 28, 29, 30, 31, 32, 33, 34, 37, 40], [], [], [], [], [], [], [], [], [0, 35, 36], [], [], [0, 38, 39], [], [], [0, 41, 42], [], [], [0, 0, 1, 25, 0, 0, 0, 0], [45, 58, 0, 0, 59], [46, 48, 50, 52, 54, 56], [47, 0, 0, 0, 0, 0], [], [49, 0, 0, 0, 0, 0], [], [51, 0, 0, 0, 0, 0], [], [53, 0, 0, 0, 0, 0], [], [55, 0, 0, 0, 0, 0], [], [57, 0, 0, 0, 0, 0], [], [], [], [0, 0, 0, 61, 62], [], [], [7, 64, 65], [], [], [7, 44, 63, 67, 69], [68, 0, 0, 0, 0, 0], [], [], [7, 44, 71], [], [0, 7, 44, 63, 73, 74, 75, 76], [], [], [], [], [0, 78, 0, 79, 0, 80, 81, 82, 83, 84, 0, 0, 0, 0, 0, 0, 0, 0, 0, 0, 0, 85, 86, 87, 88, 89, 90, 91, 92, 93, 94, 95, 96, 97, 98, 99, 100, 0, 101, 102, 103, 104, 105, 0, 106, 107, 108, 0, 109, 110, 0, 111, 112, 0, 0, 113, 0, 114, 115, 116, 0, 117, 118, 119, 120, 121], [], [], [], [], [], [], [], [], [], [], [], [], [], [], [], [], [], [], [], [], [], [], [], [], [], [], [], [], [], [], [], [], [], [], [], [], [], [], [], [], [], [], [], []]
def kf_ftl : List (List Nat) := [[2, 2, 2, 2, 2], [2, 0, 0, 0, 0, 3], [0, 2, 2], [0, 0, 0, 2, 2], [2, 2, 2], [2, 2, 2], [0, 0, 2, 2, 0, 0, 0, 0], [2, 2, 0, 0, 2], [0, 2, 2, 2, 2, 2, 0, 0, 1], [0, 2, 2, 2, 2, 2, 2, 2], [0, 0, 0, 0, 0, 0, 2, 2, 2, 2, 2, 2, 2, 2, 2, 2, 2], [2, 2, 2, 2, 2, 2, 2, 2, 2, 2], [0, 2, 0, 2, 0, 2, 2, 2, 2, 2, 0, 0, 0, 0, 0, 0, 0, 0, 0, 0, 0, 2, 2, 2, 2, 2, 2, 2, 2, 2, 2, 2, 2, 2, 2, 2, 2, 0, 2, 2, 2, 2, 2, 0, 2, 2, 2, 0, 2, 2, 3, 2, 2, 0, 3, 2, 0, 2, 2, 2, 0, 2, 2, 2, 2, 2]]
def kf_rtl : List (List Nat) := [[11, 8, 5, 2, 50], [50, 0, 0, 0, 0, 0], [0, 50, 50], [0, 0, 0, 50, 50], [11, 50, 50], [11, 8, 50], [0, 0, 9, 11, 0, 0, 0, 0], [54, 50, 0, 0, 50], [0, 52, 51, 50, 50, 51, 0, 0, 0], [0, 11, 8, 5, 50, 50, 50, 50], [0, 0, 0, 0, 0, 0, 51, 51, 50, 50, 50, 50, 50, 50, 3, 3, 3], [9, 11, 11, 7, 8, 4, 5, 1, 6, 10], [0, 52, 0, 52, 0, 50, 50, 50, 51, 51, 0, 0, 0, 0, 0, 0, 0, 0, 0, 0, 0, 51, 50, 50, 50, 50, 50, 50, 50, 50, 50, 50, 50, 50, 50, 50, 50, 0, 53, 50, 50, 50, 50, 0, 50, 50, 50, 0, 50, 50, 0, 50, 50, 0, 0, 50, 0, 50, 50, 50, 0, 50, 50, 50, 53, 50]]
def kf_words : String := "door caller round gives wears pays wind near seed if then else apart part lifts idle day face unlike which rubbed"
def kf_signs : String := ";=+-*/<()"
def kf_len : List Nat := [113, 9]
def kf_byt : List (List Int32) := [[100, 111, 111, 114, 32, 99, 97, 108, 108, 101, 114, 32, 114, 111, 117, 110, 100, 32, 103, 105, 118, 101, 115, 32, 119, 101, 97, 114, 115, 32, 112, 97, 121, 115, 32, 119, 105, 110, 100, 32, 110, 101, 97, 114, 32, 115, 101, 101, 100, 32, 105, 102, 32, 116, 104, 101, 110, 32, 101, 108, 115, 101, 32, 97, 112, 97, 114, 116, 32, 112, 97, 114, 116, 32, 108, 105, 102, 116, 115, 32, 105, 100, 108, 101, 32, 100, 97, 121, 32, 102, 97, 99, 101, 32, 117, 110, 108, 105, 107, 101, 32, 119, 104, 105, 99, 104, 32, 114, 117, 98, 98, 101, 100], [59, 61, 43, 45, 42, 47, 60, 40, 41]]
/-! ===== the world: one store for all cells; the picture of the heap; a judgement for a frame over it ===== -/
/-- ints (booleans, bytes too) and longs, by cell and place -/
abbrev kf_St : Type := (Nat → Nat → Int32) × (Nat → Nat → Int64)
/-- (classes, slots, classes of arrays, where the cells lie, kinds of cells, where the texts lie, their bytes) -/
abbrev kf_G : Type := (Nat → ClassId) × (Nat → Nat → Nat) × (Nat → ClassId) × (Nat → Nat) × List Nat × (Nat → Nat) × (Nat → Nat)
abbrev kf_D (G : kf_G) : va_G := (G.1, G.2.1)
abbrev kf_aC (G : kf_G) : Nat → ClassId := G.2.2.1
abbrev kf_ad (G : kf_G) : Nat → Nat := G.2.2.2.1
def kf_kd (G : kf_G) (k : Nat) : Nat := G.2.2.2.2.1.getD k 0
def kf_ln (k : Nat) : Nat := kf_lnl.getD k 0
def kf_rf (k j : Nat) : Nat := (kf_rfl.getD k []).getD j 0
def kf_ft (c : Nat) : List Nat := kf_ftl.getD c []
def kf_fv (B : Nat → Nat) (σ : kf_St) (k j t : Nat) : Value := if t = 1 then .long (σ.2 k j) else if t = 2 then .ref (B (kf_rf k j)) else .int (σ.1 k j)
def kf_fs (B : Nat → Nat) (σ : kf_St) (k : Nat) : Nat → List Nat → List Value
  | _, [] => []
  | j, t :: l => kf_fv B σ k j t :: kf_fs B σ k (j + 1) l
def kf_cellK (G : kf_G) (σ : kf_St) (k q : Nat) : va_E :=
  if q = 50 then .inl (kf_aC G 0, kf_ln k, .inl (σ.1 k))
  else if q = 51 then .inl (kf_aC G 1, kf_ln k, .inr (.inl (σ.2 k)))
  else if q = 52 then .inl (kf_aC G 2, kf_ln k, .inl (σ.1 k))
  else if q = 53 then .inl (kf_aC G 3, kf_ln k, .inl (σ.1 k))
  else if q = 54 then .inl (kf_aC G 4, kf_ln k, .inr (.inr (.inr (.inr (fun j => some (kf_ad G (kf_rf k j)))))))
  else .inr (q - 1, kf_fs (kf_ad G) σ k 0 (kf_ft (q - 1)))
def kf_cell (G : kf_G) (σ : kf_St) (k : Nat) : va_E := kf_cellK G σ k (kf_kd G k)
def kf_ks (G : kf_G) : List Nat := (List.range G.2.2.2.2.1.length).filter (fun k => !(kf_kd G k == 0))
def kf_W (G : kf_G) (σ : kf_St) : va_W := (kf_ks G).map (fun k => (kf_ad G k, kf_cell G σ k))
def kf_inj (G : kf_G) : Prop := ∀ a b, kf_kd G a ≠ 0 → kf_kd G b ≠ 0 → kf_ad G a = kf_ad G b → a = b
abbrev kf_tys (G : kf_G) : List (ClassId × FieldType) := [(kf_aC G 0, .int), (kf_aC G 1, .long), (kf_aC G 2, .byte), (kf_aC G 3, .boolean), (kf_aC G 4, .object RX1)]
abbrev kf_A (G : kf_G) : Nat → Prop := fun q => ∃ k, kf_kd G k ≠ 0 ∧ q = kf_ad G k
theorem kf_fs_get (B : Nat → Nat) (σ : kf_St) (k : Nat) : ∀ (l : List Nat) (i j : Nat), (kf_fs B σ k i l)[j]? = (l[j]?).map (fun t => kf_fv B σ k (i + j) t)
  | [], i, j => by simp [kf_fs]
  | t :: l, i, 0 => by simp [kf_fs]
  | t :: l, i, j + 1 => by
    simp only [kf_fs, List.getElem?_cons_succ]
    rw [kf_fs_get B σ k l (i + 1) j, show i + 1 + j = i + (j + 1) by omega]
theorem kf_fs_len (B : Nat → Nat) (σ : kf_St) (k : Nat) : ∀ (l : List Nat) (i : Nat), (kf_fs B σ k i l).length = l.length
  | [], i => rfl
  | t :: l, i => by simp only [kf_fs, List.length_cons, kf_fs_len B σ k l (i + 1)]
theorem kf_kd_lt {G : kf_G} {k : Nat} (h : kf_kd G k ≠ 0) : k < G.2.2.2.2.1.length := by
  rcases Nat.lt_or_ge k G.2.2.2.2.1.length with q | q
  · exact q
  · exact absurd (by unfold kf_kd; simp [List.getD_eq_getElem?_getD, List.getElem?_eq_none q]) h
theorem kf_in {G : kf_G} {k : Nat} (h : kf_kd G k ≠ 0) : k ∈ kf_ks G := List.mem_filter.mpr ⟨List.mem_range.mpr (kf_kd_lt h), by simp [h]⟩
theorem kf_ks_nd (G : kf_G) : (kf_ks G).Nodup := List.Pairwise.filter _ List.nodup_range
theorem kf_ks_kd {G : kf_G} {k : Nat} (h : k ∈ kf_ks G) : kf_kd G k ≠ 0 := by
  have := (List.mem_filter.mp h).2
  simpa using this
theorem kf_W_at {G : kf_G} {σ : kf_St} {i : Nat} {p : Nat × va_E} (h : (kf_W G σ)[i]? = some p) : ∃ k, (kf_ks G)[i]? = some k ∧ kf_kd G k ≠ 0 ∧ p = (kf_ad G k, kf_cell G σ k) := by
  simp only [kf_W, List.getElem?_map] at h
  cases h1 : (kf_ks G)[i]? with
  | none => rw [h1] at h; cases h
  | some a =>
    rw [h1] at h
    cases h
    exact ⟨a, rfl, kf_ks_kd (List.mem_of_getElem? h1), rfl⟩
theorem kf_ks_inj {G : kf_G} {i j a : Nat} (h1 : (kf_ks G)[i]? = some a) (h2 : (kf_ks G)[j]? = some a) : i = j := by
  obtain ⟨l1, e1⟩ := List.getElem?_eq_some_iff.mp h1
  obtain ⟨l2, e2⟩ := List.getElem?_eq_some_iff.mp h2
  have hpw := List.pairwise_iff_getElem.mp (kf_ks_nd G)
  rcases Nat.lt_trichotomy i j with h | h | h
  · exact absurd (e1.trans e2.symm) (hpw i j l1 l2 h)
  · exact h
  · exact absurd (e2.trans e1.symm) (hpw j i l2 l1 h)
theorem kf_Dok {G : kf_G} (hi : kf_inj G) (σ : kf_St) : va_D (kf_A G) (kf_W G σ) := by
  refine ⟨fun i j p q hp hq hpq => ?_, fun k q hk => ?_⟩
  · obtain ⟨a, a1, a2, rfl⟩ := kf_W_at hp
    obtain ⟨b, b1, b2, rfl⟩ := kf_W_at hq
    have := hi a b a2 b2 hpq
    subst this
    exact kf_ks_inj a1 b1
  · obtain ⟨a, a1, a2, rfl⟩ := kf_W_at hk
    exact ⟨a, a2, rfl⟩
theorem kf_get {G : kf_G} (σ : kf_St) {k : Nat} (h : kf_kd G k ≠ 0) : ∃ q : Nat, (kf_W G σ)[q]? = some (kf_ad G k, kf_cell G σ k) := by
  apply List.getElem?_of_mem
  exact List.mem_map.mpr ⟨k, kf_in h, rfl⟩
theorem kf_set {G : kf_G} (hi : kf_inj G) {σ σ' : kf_St} {k q : Nat} {e : va_E} (h : kf_kd G k ≠ 0) (hq : (kf_W G σ)[q]? = some (kf_ad G k, kf_cell G σ k)) (he : kf_cell G σ' k = e) (ho : ∀ j, j ≠ k → kf_cell G σ' j = kf_cell G σ j) : (kf_W G σ).set q (kf_ad G k, e) = kf_W G σ' := by
  have hl := (List.getElem?_eq_some_iff.mp hq).1
  obtain ⟨a, a1, a2, ea⟩ := kf_W_at hq
  have hka : k = a := hi k a h a2 (congrArg Prod.fst ea)
  subst hka
  apply List.ext_getElem?
  intro j
  by_cases hj : j = q
  · subst hj
    rw [List.getElem?_set_self hl]
    simp only [kf_W, List.getElem?_map, a1, Option.map_some, he]
  · rw [List.getElem?_set_ne (Ne.symm hj)]
    simp only [kf_W, List.getElem?_map]
    cases hb : (kf_ks G)[j]? with
    | none => rfl
    | some b =>
      have hba : b ≠ k := by
        intro e
        subst e
        exact hj (kf_ks_inj hb a1)
      simp only [Option.map_some, ho b hba]
/-- writes -/
def kf_wi (σ : kf_St) (k j : Nat) (v : Int32) : kf_St := (fun a b => if a = k ∧ b = j then v else σ.1 a b, σ.2)
def kf_wl (σ : kf_St) (k j : Nat) (v : Int64) : kf_St := (σ.1, fun a b => if a = k ∧ b = j then v else σ.2 a b)
def kf_ci (σ : kf_St) (a b sp dp n : Nat) : kf_St := (fun k j => if k = b then va_cpy (σ.1 a) (σ.1 b) sp dp n j else σ.1 k j, σ.2)
def kf_cl2 (σ : kf_St) (a b sp dp n : Nat) : kf_St := (σ.1, fun k j => if k = b then va_cpy (σ.2 a) (σ.2 b) sp dp n j else σ.2 k j)
theorem kf_fs_wi {B : Nat → Nat} {σ : kf_St} {k j : Nat} {v : Int32} : ∀ (l : List Nat) (i : Nat), (∀ t, l[j]? = some t → t ≠ 1 ∧ t ≠ 2) → kf_fs B (kf_wi σ k (i + j) v) k i l = (kf_fs B σ k i l).set j (.int v) := by
  intro l i ht
  apply List.ext_getElem?
  intro x
  rw [kf_fs_get, List.getElem?_set, kf_fs_get, kf_fs_len]
  by_cases hx : j = x
  · subst hx
    rw [if_pos rfl]
    cases hl : l[j]? with
    | none =>
      have := List.getElem?_eq_none_iff.mp hl
      rw [if_neg (by omega)]
      rfl
    | some t =>
      obtain ⟨h1, h2⟩ := ht t hl
      have := (List.getElem?_eq_some_iff.mp hl).1
      rw [if_pos this]
      simp [kf_fv, h1, h2, kf_wi]
  · rw [if_neg hx]
    cases hl : l[x]? with
    | none => rfl
    | some t =>
      have hne : ¬ (i + x = i + j) := by omega
      simp only [kf_fv, kf_wi, hne, and_false, if_false, Option.map]
theorem kf_fs_wl {B : Nat → Nat} {σ : kf_St} {k j : Nat} {v : Int64} : ∀ (l : List Nat) (i : Nat), (∀ t, l[j]? = some t → t = 1) → kf_fs B (kf_wl σ k (i + j) v) k i l = (kf_fs B σ k i l).set j (.long v) := by
  intro l i ht
  apply List.ext_getElem?
  intro x
  rw [kf_fs_get, List.getElem?_set, kf_fs_get, kf_fs_len]
  by_cases hx : j = x
  · subst hx
    rw [if_pos rfl]
    cases hl : l[j]? with
    | none =>
      have := List.getElem?_eq_none_iff.mp hl
      rw [if_neg (by omega)]
      rfl
    | some t =>
      have h1 := ht t hl
      have := (List.getElem?_eq_some_iff.mp hl).1
      rw [if_pos this]
      simp [kf_fv, h1, kf_wl]
  · rw [if_neg hx]
    cases hl : l[x]? with
    | none => rfl
    | some t =>
      have hne : ¬ (i + x = i + j) := by omega
      simp only [kf_fv, kf_wl, hne, and_false, if_false, Option.map]
theorem kf_fs_other {B : Nat → Nat} {σ σ' : kf_St} {k : Nat} (h1 : σ'.1 k = σ.1 k) (h2 : σ'.2 k = σ.2 k) : ∀ (l : List Nat) (i : Nat), kf_fs B σ' k i l = kf_fs B σ k i l
  | [], i => rfl
  | t :: l, i => by simp only [kf_fs, kf_fv, h1, h2, kf_fs_other h1 h2 l (i + 1)]
theorem kf_cell_other {G : kf_G} {σ σ' : kf_St} {k : Nat} (h1 : σ'.1 k = σ.1 k) (h2 : σ'.2 k = σ.2 k) : kf_cell G σ' k = kf_cell G σ k := by
  unfold kf_cell kf_cellK
  rw [h1, h2, kf_fs_other h1 h2]
theorem kf_wi_o {σ : kf_St} {k j a : Nat} {v : Int32} (h : a ≠ k) : (kf_wi σ k j v).1 a = σ.1 a := by
  funext b
  simp [kf_wi, h]
theorem kf_wl_o {σ : kf_St} {k j a : Nat} {v : Int64} (h : a ≠ k) : (kf_wl σ k j v).2 a = σ.2 a := by
  funext b
  simp [kf_wl, h]
theorem kf_wi_s {σ : kf_St} {k j : Nat} {v : Int32} : (kf_wi σ k j v).1 k = upd (σ.1 k) j v := by
  funext b
  simp [kf_wi, upd]
theorem kf_wl_s {σ : kf_St} {k j : Nat} {v : Int64} : (kf_wl σ k j v).2 k = vp_updL (σ.2 k) j v := by
  funext b
  simp [kf_wl, vp_updL]
