/-! the store behind the two constructors -/
def kf_r0 (k : Nat) : Nat → Int32 := if 77 ≤ k then kf_sM.1 k else if k = 43 then (fun j => if j = 1 then -1 else 0) else if k < 7 then (fun _ => 0) else if k < 25 then kf_sT.1 k else if k < 43 then kf_sT.1 (k - 18) else (fun _ => 0)
def kf_l0 (k : Nat) : Nat → Int64 := if 77 ≤ k then kf_sM.2 k else if k = 3 then kf_codes else if k < 7 then (fun _ => 0) else if k < 25 then kf_sT.2 k else if k < 43 then kf_sT.2 (k - 18) else (fun _ => 0)
def kf_s0 : kf_St := (kf_r0, kf_l0)
def kc_GF (G : kf_G) (h0 : Nat) (u : Nat → Nat) (h1 : Nat) (v : Nat → Nat) : kf_G := (G.1, G.2.1, G.2.2.1, fun k => if k = 0 then h0 else if k < 77 then u (k - 1) else if k = 77 then h1 else v (k - 78), kf_kl, G.2.2.2.2.2.1, G.2.2.2.2.2.2)
set_option maxRecDepth 100000 in
theorem kf_kl_ok : kf_wtl kf_kl = true := by decide +kernel
theorem kc_atq {D : va_G} {cl : List vw_C} {a : Nat} {c : ClassId} {n : Nat} {f g : Nat → Option Nat} {H : Heap} (h : va_at D cl (a, .inl (c, n, .inr (.inr (.inr (.inr f))))) H) (e : ∀ j, j < n → f j = g j) : va_at D cl (a, .inl (c, n, .inr (.inr (.inr (.inr g))))) H := by
  have h1 : H[a]? = some (arrV c n (fun j => va_rf (f j))) := h
  show H[a]? = some (arrV c n (fun j => va_rf (g j)))
  rw [h1]
  refine congrArg some ?_
  unfold arrV
  congr 1
  refine congrArg Array.ofFn ?_
  funext j
  show va_rf (f j.val) = va_rf (g j.val)
  rw [e j.val j.isLt]
theorem kc_atW {G : kf_G} {σ : kf_St} {D : va_G} {cl : List vw_C} {H : Heap} (h : va_P D cl (kf_W G σ) H) {k : Nat} (hk : kf_kd G k ≠ 0) : va_at D cl (kf_ad G k, kf_cell G σ k) H := by
  obtain ⟨q, hq⟩ := kf_get (G := G) σ hk
  exact h q _ hq
theorem kc_ofat {G : kf_G} {σ : kf_St} {D : va_G} {cl : List vw_C} {H : Heap} (h : ∀ k, kf_kd G k ≠ 0 → va_at D cl (kf_ad G k, kf_cell G σ k) H) : va_P D cl (kf_W G σ) H := by
  intro i q hq
  obtain ⟨k, -, h2, rfl⟩ := kf_W_at hq
  exact h k h2
abbrev kc_w11 (G : kf_G) (h0 : Nat) (u : Nat → Nat) : va_W := [(h0, .inr (11, [.ref (u 0), .ref (u 6), .ref (u 24), .ref (u 42), .ref (u 43), .ref (u 59), .ref (u 62), .ref (u 65), .ref (u 69), .ref (u 71)]))] ++ (((((((((([] ++ ([((u 0), .inr (8, [.int 0, .ref (u 1), .ref (u 2), .ref (u 3), .ref (u 4), .ref (u 5), .int 0, .int 0, .long 0])), ((u 1), .inl (kf_aC G 2, 2000, .inl (fun _ => 0))), ((u 2), .inl (kf_aC G 1, 21, .inr (.inl kf_codes))), ((u 3), .inl (kf_aC G 0, 401, .inl (fun _ => 0))), ((u 4), .inl (kf_aC G 0, 401, .inl (fun _ => 0))), ((u 5), .inl (kf_aC G 1, 401, .inr (.inl (fun _ => 0))))])) ++ (kf_W (kc_GT G [(u 6), (u 7), (u 8), (u 9), (u 10), (u 11), (u 12), (u 13), (u 14), (u 15), (u 16), (u 17), (u 18), (u 19), (u 20), (u 21), (u 22), (u 23)]) kf_sT)) ++ (kf_W (kc_GT G [(u 24), (u 25), (u 26), (u 27), (u 28), (u 29), (u 30), (u 31), (u 32), (u 33), (u 34), (u 35), (u 36), (u 37), (u 38), (u 39), (u 40), (u 41)]) kf_sT)) ++ ([((u 42), .inr (6, [.int 0, .int (-1), .ref (u 0), .ref (u 24), .int 0, .int 0, .int 0, .int 0]))])) ++ ([((u 43), .inr (7, [.ref (u 44), .ref (u 57), .int 0, .int 0, .ref (u 58)])), ((u 44), .inl (kf_aC G 4, 6, .inr (.inr (.inr (.inr (va_up (va_up (va_up (va_up (va_up (va_up (fun _ => none) (Int32.toNatClampNeg 0) (some (u 45))) (Int32.toNatClampNeg 1) (some (u 47))) (Int32.toNatClampNeg 2) (some (u 49))) (Int32.toNatClampNeg 3) (some (u 51))) (Int32.toNatClampNeg 4) (some (u 53))) (Int32.toNatClampNeg 5) (some (u 55))))))))] ++ [((u 45), .inr (1, [.ref (u 46), .int 0, .int 0, .int 0, .int 0, .int 0])), ((u 46), .inl (kf_aC G 0, 4, .inl (fun _ => 0)))] ++ [((u 47), .inr (1, [.ref (u 48), .int 0, .int 0, .int 0, .int 0, .int 0])), ((u 48), .inl (kf_aC G 0, 4, .inl (fun _ => 0)))] ++ [((u 49), .inr (1, [.ref (u 50), .int 0, .int 0, .int 0, .int 0, .int 0])), ((u 50), .inl (kf_aC G 0, 4, .inl (fun _ => 0)))] ++ [((u 51), .inr (1, [.ref (u 52), .int 0, .int 0, .int 0, .int 0, .int 0])), ((u 52), .inl (kf_aC G 0, 4, .inl (fun _ => 0)))] ++ [((u 53), .inr (1, [.ref (u 54), .int 0, .int 0, .int 0, .int 0, .int 0])), ((u 54), .inl (kf_aC G 0, 4, .inl (fun _ => 0)))] ++ [((u 55), .inr (1, [.ref (u 56), .int 0, .int 0, .int 0, .int 0, .int 0])), ((u 56), .inl (kf_aC G 0, 4, .inl (fun _ => 0))), ((u 57), .inl (kf_aC G 0, 5, .inl (fun _ => 0))), ((u 58), .inl (kf_aC G 0, 24, .inl (fun _ => 0)))])) ++ ([((u 59), .inr (3, [.int 0, .int 0, .int 0, .ref (u 60), .ref (u 61)])), ((u 60), .inl (kf_aC G 0, 2440, .inl (fun _ => 0))), ((u 61), .inl (kf_aC G 0, 183, .inl (fun _ => 0)))])) ++ ([((u 62), .inr (4, [.ref (u 6), .ref (u 63), .ref (u 64)])), ((u 63), .inl (kf_aC G 0, 9, .inl (fun _ => 0))), ((u 64), .inl (kf_aC G 0, 4, .inl (fun _ => 0)))])) ++ ([((u 65), .inr (0, [.ref (u 6), .ref (u 43), .ref (u 62), .ref (u 66), .ref (u 68)]))] ++ [((u 66), .inr (1, [.ref (u 67), .int 0, .int 0, .int 0, .int 0, .int 0])), ((u 67), .inl (kf_aC G 0, 4, .inl (fun _ => 0))), ((u 68), .inl (kf_aC G 0, 624, .inl (fun _ => 0)))])) ++ ([((u 69), .inr (5, [.ref (u 6), .ref (u 43), .ref (u 70)])), ((u 70), .inl (kf_aC G 0, 224, .inl (fun _ => 0)))])) ++ ([((u 71), .inr (9, [.int 0, .ref (u 6), .ref (u 43), .ref (u 62), .ref (u 72), .ref (u 73), .ref (u 74), .ref (u 75)])), ((u 72), .inl (kf_aC G 0, 20, .inl (fun _ => 0))), ((u 73), .inl (kf_aC G 0, 20, .inl (fun _ => 0))), ((u 74), .inl (kf_aC G 0, 20, .inl (fun _ => 0))), ((u 75), .inl (kf_aC G 0, 3, .inl (fun _ => 0)))]))
abbrev kc_w12 (G : kf_G) (h1 : Nat) (v : Nat → Nat) : va_W := kf_W (kc_GM G [h1, v 0, v 1, v 2, v 3, v 4, v 5, v 6, v 7, v 8, v 9, v 10, v 11, v 12, v 13, v 14, v 15, v 16, v 17, v 18, v 19, v 20, v 21, v 22, v 23, v 24, v 25, v 26, v 27, v 28, v 29, v 30, v 31, v 32, v 33, v 34, v 35, v 36, v 37, v 38, v 39, v 40, v 41, v 42, v 43]) kf_sM
theorem kf_fs_congr {f g : Nat → Nat} {σ σ' : kf_St} {k k' : Nat} (h1 : σ.1 k = σ'.1 k') (h2 : σ.2 k = σ'.2 k') : ∀ (l : List Nat) (i : Nat), (∀ j, l[j]? = some 2 → f (kf_rf k (i + j)) = g (kf_rf k' (i + j))) → kf_fs f σ k i l = kf_fs g σ' k' i l
  | [], i, _ => rfl
  | t :: l, i, h => by
    have e1 : kf_fv f σ k i t = kf_fv g σ' k' i t := by
      unfold kf_fv
      by_cases ht : t = 1
      · rw [if_pos ht, if_pos ht, h2]
      · rw [if_neg ht, if_neg ht]
        by_cases ht2 : t = 2
        · rw [if_pos ht2, if_pos ht2]
          have := h 0 (by rw [ht2]; rfl)
          rw [Nat.add_zero] at this
          rw [this]
        · rw [if_neg ht2, if_neg ht2, h1]
    have e2 := kf_fs_congr h1 h2 l (i + 1) (fun j hj => by
      have := h (j + 1) hj
      rw [show i + 1 + j = i + (j + 1) by omega]
      exact this)
    simp only [kf_fs, e1, e2]
theorem kf_cell_congr {G G' : kf_G} {σ σ' : kf_St} {k k' : Nat} (hkd : kf_kd G k = kf_kd G' k') (h54 : kf_kd G k ≠ 54) (ha : kf_aC G = kf_aC G') (hln : kf_ln k = kf_ln k') (h1 : σ.1 k = σ'.1 k') (h2 : σ.2 k = σ'.2 k') (hr : ∀ j, (kf_ft (kf_kd G k - 1))[j]? = some 2 → kf_ad G (kf_rf k j) = kf_ad G' (kf_rf k' j)) : kf_cell G σ k = kf_cell G' σ' k' := by
  have hfs := kf_fs_congr (f := kf_ad G) (g := kf_ad G') h1 h2 (kf_ft (kf_kd G k - 1)) 0 (fun j hj => by rw [Nat.zero_add]; exact hr j hj)
  unfold kf_cell kf_cellK
  rw [← hkd, hfs, if_neg h54, if_neg h54, ha, hln, h1, h2]
theorem kc_adT (G : kf_G) (w : Nat → Nat) : ∀ x, 7 ≤ x → x < 25 → kf_ad (kc_GT G [w 0, w 1, w 2, w 3, w 4, w 5, w 6, w 7, w 8, w 9, w 10, w 11, w 12, w 13, w 14, w 15, w 16, w 17]) x = w (x - 7) := by
  intro x h1 h2
  have : ∀ i, i < 18 → [w 0, w 1, w 2, w 3, w 4, w 5, w 6, w 7, w 8, w 9, w 10, w 11, w 12, w 13, w 14, w 15, w 16, w 17].getD i 0 = w i := by
    intro i hi
    match i, hi with
    | 0, _ => rfl
    | 1, _ => rfl
    | 2, _ => rfl
    | 3, _ => rfl
    | 4, _ => rfl
    | 5, _ => rfl
    | 6, _ => rfl
    | 7, _ => rfl
    | 8, _ => rfl
    | 9, _ => rfl
    | 10, _ => rfl
    | 11, _ => rfl
    | 12, _ => rfl
    | 13, _ => rfl
    | 14, _ => rfl
    | 15, _ => rfl
    | 16, _ => rfl
    | 17, _ => rfl
    | i + 18, h => omega
  exact this (x - 7) (by omega)
theorem kc_adM (G : kf_G) (h1 : Nat) (v : Nat → Nat) : ∀ x, 77 ≤ x → x < 122 → kf_ad (kc_GM G [h1, v 0, v 1, v 2, v 3, v 4, v 5, v 6, v 7, v 8, v 9, v 10, v 11, v 12, v 13, v 14, v 15, v 16, v 17, v 18, v 19, v 20, v 21, v 22, v 23, v 24, v 25, v 26, v 27, v 28, v 29, v 30, v 31, v 32, v 33, v 34, v 35, v 36, v 37, v 38, v 39, v 40, v 41, v 42, v 43]) x = if x = 77 then h1 else v (x - 78) := by
  intro x h2 h3
  have : ∀ i, i < 45 → [h1, v 0, v 1, v 2, v 3, v 4, v 5, v 6, v 7, v 8, v 9, v 10, v 11, v 12, v 13, v 14, v 15, v 16, v 17, v 18, v 19, v 20, v 21, v 22, v 23, v 24, v 25, v 26, v 27, v 28, v 29, v 30, v 31, v 32, v 33, v 34, v 35, v 36, v 37, v 38, v 39, v 40, v 41, v 42, v 43].getD i 0 = if i = 0 then h1 else v (i - 1) := by
    intro i hi
    match i, hi with
    | 0, _ => rfl
    | 1, _ => rfl
    | 2, _ => rfl
    | 3, _ => rfl
    | 4, _ => rfl
    | 5, _ => rfl
    | 6, _ => rfl
    | 7, _ => rfl
    | 8, _ => rfl
    | 9, _ => rfl
    | 10, _ => rfl
    | 11, _ => rfl
    | 12, _ => rfl
    | 13, _ => rfl
    | 14, _ => rfl
    | 15, _ => rfl
    | 16, _ => rfl
    | 17, _ => rfl
    | 18, _ => rfl
    | 19, _ => rfl
    | 20, _ => rfl
    | 21, _ => rfl
    | 22, _ => rfl
    | 23, _ => rfl
    | 24, _ => rfl
    | 25, _ => rfl
    | 26, _ => rfl
    | 27, _ => rfl
    | 28, _ => rfl
    | 29, _ => rfl
    | 30, _ => rfl
    | 31, _ => rfl
    | 32, _ => rfl
    | 33, _ => rfl
    | 34, _ => rfl
    | 35, _ => rfl
    | 36, _ => rfl
    | 37, _ => rfl
    | 38, _ => rfl
    | 39, _ => rfl
    | 40, _ => rfl
    | 41, _ => rfl
    | 42, _ => rfl
    | 43, _ => rfl
    | 44, _ => rfl
    | i + 45, h => omega
  have e := this (x - 77) (by omega)
  show [h1, v 0, v 1, v 2, v 3, v 4, v 5, v 6, v 7, v 8, v 9, v 10, v 11, v 12, v 13, v 14, v 15, v 16, v 17, v 18, v 19, v 20, v 21, v 22, v 23, v 24, v 25, v 26, v 27, v 28, v 29, v 30, v 31, v 32, v 33, v 34, v 35, v 36, v 37, v 38, v 39, v 40, v 41, v 42, v 43].getD (x - 77) 0 = _
  rw [e]
  by_cases hx : x = 77
  · rw [if_pos (by omega), if_pos hx]
  · rw [if_neg (by omega), if_neg hx, show x - 77 - 1 = x - 78 by omega]
def kf_chk (k : Nat) (lo hi d : Nat) (kl2 : List Nat) : Bool := kf_kl.getD k 0 == kl2.getD (k - d) 0 && kf_kl.getD k 0 != 54 && kf_kl.getD k 0 != 0 && kf_ln k == kf_ln (k - d) && (List.range (kf_ft (kf_kl.getD k 0 - 1)).length).all (fun j => (kf_ft (kf_kl.getD k 0 - 1)).getD j 0 != 2 || (decide (lo ≤ kf_rf k j) && decide (kf_rf k j < hi) && kf_rf (k - d) j + d == kf_rf k j))
set_option maxRecDepth 100000 in
theorem kf_chk1 : (List.range 18).all (fun i => kf_chk (7 + i) 7 25 0 kf_klT) = true := by decide +kernel
set_option maxRecDepth 100000 in
theorem kf_chk2 : (List.range 18).all (fun i => kf_chk (25 + i) 25 43 18 kf_klT) = true := by decide +kernel
set_option maxRecDepth 100000 in
theorem kf_chk3 : (List.range 45).all (fun i => kf_chk (77 + i) 77 122 0 kf_klM) = true := by decide +kernel
theorem kf_chk_of {G G' : kf_G} {σ σ' : kf_St} {k lo hi d : Nat} {kl2 : List Nat} (h : kf_chk k lo hi d kl2 = true) (hG : G.2.2.2.2.1 = kf_kl) (hG' : G'.2.2.2.2.1 = kl2) (ha : kf_aC G = kf_aC G') (h1 : σ.1 k = σ'.1 (k - d)) (h2 : σ.2 k = σ'.2 (k - d)) (had : ∀ x, lo ≤ x → x < hi → kf_ad G x = kf_ad G' (x - d)) : kf_kd G' (k - d) ≠ 0 ∧ kf_cell G σ k = kf_cell G' σ' (k - d) := by
  unfold kf_chk at h
  simp only [Bool.and_eq_true, beq_iff_eq, bne_iff_ne] at h
  obtain ⟨⟨⟨⟨a1, a2⟩, a3⟩, a4⟩, a5⟩ := h
  have e1 : kf_kd G k = kf_kl.getD k 0 := by unfold kf_kd; rw [hG]
  have e2 : kf_kd G' (k - d) = kl2.getD (k - d) 0 := by unfold kf_kd; rw [hG']
  refine ⟨by rw [e2, ← a1]; exact a3, kf_cell_congr (by rw [e1, e2]; exact a1) (by rw [e1]; exact a2) ha a4 h1 h2 (fun j hj => ?_)⟩
  rw [e1] at hj
  have hjl := (List.getElem?_eq_some_iff.mp hj).1
  have h3 := List.all_eq_true.mp a5 j (List.mem_range.mpr hjl)
  have hg : (kf_ft (kf_kl.getD k 0 - 1)).getD j 0 = 2 := by rw [List.getD_eq_getElem?_getD, hj]; rfl
  rw [hg] at h3
  simp only [bne_self_eq_false, Bool.false_or, Bool.and_eq_true, decide_eq_true_eq, beq_iff_eq] at h3
  obtain ⟨⟨b1, b2⟩, b3⟩ := h3
  rw [had _ b1 b2]
  congr 1
  omega
theorem kf_s0_T {k : Nat} (h1 : 7 ≤ k) (h2 : k < 25) : kf_s0.1 k = kf_sT.1 k ∧ kf_s0.2 k = kf_sT.2 k := by
  refine ⟨?_, ?_⟩
  · show kf_r0 k = _
    unfold kf_r0
    rw [if_neg (by omega), if_neg (by omega), if_neg (by omega), if_pos h2]
  · show kf_l0 k = _
    unfold kf_l0
    rw [if_neg (by omega), if_neg (by omega), if_neg (by omega), if_pos h2]
theorem kf_s0_T2 {k : Nat} (h1 : 25 ≤ k) (h2 : k < 43) : kf_s0.1 k = kf_sT.1 (k - 18) ∧ kf_s0.2 k = kf_sT.2 (k - 18) := by
  refine ⟨?_, ?_⟩
  · show kf_r0 k = _
    unfold kf_r0
    rw [if_neg (by omega), if_neg (by omega), if_neg (by omega), if_neg (by omega), if_pos h2]
  · show kf_l0 k = _
    unfold kf_l0
    rw [if_neg (by omega), if_neg (by omega), if_neg (by omega), if_neg (by omega), if_pos h2]
theorem kf_s0_M {k : Nat} (h1 : 77 ≤ k) : kf_s0.1 k = kf_sM.1 k ∧ kf_s0.2 k = kf_sM.2 k := by
  refine ⟨?_, ?_⟩
  · show kf_r0 k = _
    unfold kf_r0
    rw [if_pos h1]
  · show kf_l0 k = _
    unfold kf_l0
    rw [if_pos h1]
theorem kc_GFad {G : kf_G} {h0 h1 : Nat} {u v : Nat → Nat} {x : Nat} (h2 : 0 < x) (h3 : x < 77) : kf_ad (kc_GF G h0 u h1 v) x = u (x - 1) := by
  show (if x = 0 then h0 else if x < 77 then u (x - 1) else _) = _
  rw [if_neg (by omega), if_pos h3]
theorem kc_GFadM {G : kf_G} {h0 h1 : Nat} {u v : Nat → Nat} {x : Nat} (h3 : 77 ≤ x) : kf_ad (kc_GF G h0 u h1 v) x = if x = 77 then h1 else v (x - 78) := by
  show (if x = 0 then h0 else if x < 77 then u (x - 1) else if x = 77 then h1 else v (x - 78)) = _
  rw [if_neg (by omega), if_neg (by omega)]
theorem kc_fullM {G : kf_G} {h0 h1 : Nat} {u v : Nat → Nat} {H : Heap} (h12 : va_P (kf_D G) kf_cl (kc_w12 G h1 v) H) {k : Nat} (hM : 77 ≤ k) (hlt : k < 122) : va_at (kf_D G) kf_cl (kf_ad (kc_GF G h0 u h1 v) k, kf_cell (kc_GF G h0 u h1 v) kf_s0 k) H := by
  have hc := List.all_eq_true.mp kf_chk3 (k - 77) (List.mem_range.mpr (by omega))
  rw [show 77 + (k - 77) = k by omega] at hc
  obtain ⟨z1, z2⟩ := kf_chk_of (G := kc_GF G h0 u h1 v) (G' := kc_GM G [h1, v 0, v 1, v 2, v 3, v 4, v 5, v 6, v 7, v 8, v 9, v 10, v 11, v 12, v 13, v 14, v 15, v 16, v 17, v 18, v 19, v 20, v 21, v 22, v 23, v 24, v 25, v 26, v 27, v 28, v 29, v 30, v 31, v 32, v 33, v 34, v 35, v 36, v 37, v 38, v 39, v 40, v 41, v 42, v 43]) (σ := kf_s0) (σ' := kf_sM) hc rfl rfl rfl (by rw [Nat.sub_zero]; exact (kf_s0_M hM).1) (by rw [Nat.sub_zero]; exact (kf_s0_M hM).2) (fun x a1 a2 => by rw [kc_GFadM a1, Nat.sub_zero, kc_adM G h1 v x a1 a2])
  have := kc_atW h12 z1
  rw [z2, kc_GFadM hM]
  rw [Nat.sub_zero, kc_adM G h1 v k hM hlt] at this
  exact this
theorem kc_fullT {G : kf_G} {h0 h1 : Nat} {u v : Nat → Nat} {H : Heap} (hs : va_P (kf_D G) kf_cl (kf_W (kc_GT G [u 6, u 7, u 8, u 9, u 10, u 11, u 12, u 13, u 14, u 15, u 16, u 17, u 18, u 19, u 20, u 21, u 22, u 23]) kf_sT) H) {k : Nat} (hT : 7 ≤ k ∧ k < 25) : va_at (kf_D G) kf_cl (kf_ad (kc_GF G h0 u h1 v) k, kf_cell (kc_GF G h0 u h1 v) kf_s0 k) H := by
  have hc := List.all_eq_true.mp kf_chk1 (k - 7) (List.mem_range.mpr (by omega))
  rw [show 7 + (k - 7) = k by omega] at hc
  obtain ⟨z1, z2⟩ := kf_chk_of (G := kc_GF G h0 u h1 v) (G' := kc_GT G [u 6, u 7, u 8, u 9, u 10, u 11, u 12, u 13, u 14, u 15, u 16, u 17, u 18, u 19, u 20, u 21, u 22, u 23]) (σ := kf_s0) (σ' := kf_sT) hc rfl rfl rfl (by rw [Nat.sub_zero]; exact (kf_s0_T hT.1 hT.2).1) (by rw [Nat.sub_zero]; exact (kf_s0_T hT.1 hT.2).2) (fun x a1 a2 => by rw [kc_GFad (by omega) (by omega), Nat.sub_zero, kc_adT G (fun i => u (i + 6)) x a1 a2]; show u (x - 1) = u (x - 7 + 6); congr 1; omega)
  have := kc_atW hs z1
  rw [z2, kc_GFad (by omega) (by omega)]
  rw [Nat.sub_zero, kc_adT G (fun i => u (i + 6)) k hT.1 hT.2] at this
  rw [show k - 1 = k - 7 + 6 by omega]
  exact this
theorem kc_fullT2 {G : kf_G} {h0 h1 : Nat} {u v : Nat → Nat} {H : Heap} (hs : va_P (kf_D G) kf_cl (kf_W (kc_GT G [u 24, u 25, u 26, u 27, u 28, u 29, u 30, u 31, u 32, u 33, u 34, u 35, u 36, u 37, u 38, u 39, u 40, u 41]) kf_sT) H) {k : Nat} (hT2 : 25 ≤ k ∧ k < 43) : va_at (kf_D G) kf_cl (kf_ad (kc_GF G h0 u h1 v) k, kf_cell (kc_GF G h0 u h1 v) kf_s0 k) H := by
  have hc := List.all_eq_true.mp kf_chk2 (k - 25) (List.mem_range.mpr (by omega))
  rw [show 25 + (k - 25) = k by omega] at hc
  obtain ⟨z1, z2⟩ := kf_chk_of (G := kc_GF G h0 u h1 v) (G' := kc_GT G [u 24, u 25, u 26, u 27, u 28, u 29, u 30, u 31, u 32, u 33, u 34, u 35, u 36, u 37, u 38, u 39, u 40, u 41]) (σ := kf_s0) (σ' := kf_sT) hc rfl rfl rfl (kf_s0_T2 hT2.1 hT2.2).1 (kf_s0_T2 hT2.1 hT2.2).2 (fun x a1 a2 => by rw [kc_GFad (by omega) (by omega), kc_adT G (fun i => u (i + 24)) (x - 18) (by omega) (by omega)]; show u (x - 1) = u (x - 18 - 7 + 24); congr 1; omega)
  have := kc_atW hs z1
  rw [z2, kc_GFad (by omega) (by omega)]
  rw [kc_adT G (fun i => u (i + 24)) (k - 18) (by omega) (by omega)] at this
  rw [show k - 1 = k - 18 - 7 + 24 by omega]
  exact this
