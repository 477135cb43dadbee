/-! where the cells lie: the world's addresses, in order -/
theorem kc_Wad (G : kf_G) (σ : kf_St) : (kf_W G σ).map Prod.fst = (kf_ks G).map (kf_ad G) := by
  simp only [kf_W, List.map_map]
  rfl
set_option maxRecDepth 100000 in
theorem kc_ksT (G : kf_G) (as : List Nat) : kf_ks (kc_GT G as) = [7, 8, 9, 10, 11, 12, 13, 14, 15, 16, 17, 18, 19, 20, 21, 22, 23, 24] := by
  show (List.range kf_klT.length).filter (fun k => !(kf_klT.getD k 0 == 0)) = _
  decide +kernel
set_option maxRecDepth 100000 in
theorem kc_ksM (G : kf_G) (as : List Nat) : kf_ks (kc_GM G as) = [77, 78, 79, 80, 81, 82, 83, 84, 85, 86, 87, 88, 89, 90, 91, 92, 93, 94, 95, 96, 97, 98, 99, 100, 101, 102, 103, 104, 105, 106, 107, 108, 109, 110, 111, 112, 113, 114, 115, 116, 117, 118, 119, 120, 121] := by
  show (List.range kf_klM.length).filter (fun k => !(kf_klM.getD k 0 == 0)) = _
  decide +kernel
set_option maxRecDepth 100000 in
theorem kc_r122 : List.range 122 = [0, 1, 2, 3, 4, 5, 6, 7, 8, 9, 10, 11, 12, 13, 14, 15, 16, 17, 18, 19, 20, 21, 22, 23, 24, 25, 26, 27, 28, 29, 30, 31, 32, 33, 34, 35, 36, 37, 38, 39, 40, 41, 42, 43, 44, 45, 46, 47, 48, 49, 50, 51, 52, 53, 54, 55, 56, 57, 58, 59, 60, 61, 62, 63, 64, 65, 66, 67, 68, 69, 70, 71, 72, 73, 74, 75, 76, 77, 78, 79, 80, 81, 82, 83, 84, 85, 86, 87, 88, 89, 90, 91, 92, 93, 94, 95, 96, 97, 98, 99, 100, 101, 102, 103, 104, 105, 106, 107, 108, 109, 110, 111, 112, 113, 114, 115, 116, 117, 118, 119, 120, 121] := by decide +kernel
set_option maxRecDepth 100000 in
set_option maxHeartbeats 8000000 in
theorem kc_adr (G : kf_G) (h0 h1 : Nat) (u v : Nat → Nat) : (kc_w11 G h0 u ++ kc_w12 G h1 v).map Prod.fst = (List.range 122).map (kf_ad (kc_GF G h0 u h1 v)) := by
  rw [kc_r122]
  simp only [kc_w11, kc_w12, List.map_append, kc_Wad, kc_ksT, kc_ksM, List.map_cons, List.map_nil]
  rfl
theorem kc_adrAt {G : kf_G} {h0 h1 : Nat} {u v : Nat → Nat} {A : Nat → Prop} (hD : va_D A (kc_w11 G h0 u ++ kc_w12 G h1 v)) : (∀ q, kf_A (kc_GF G h0 u h1 v) q → A q) ∧ kf_inj (kc_GF G h0 u h1 v) := by
  have key : ∀ k, kf_kd (kc_GF G h0 u h1 v) k ≠ 0 → ∃ x, (kc_w11 G h0 u ++ kc_w12 G h1 v)[k]? = some x ∧ x.1 = kf_ad (kc_GF G h0 u h1 v) k := by
    intro k hk
    have hlt : k < 122 := kf_kd_lt hk
    have hz : ((kc_w11 G h0 u ++ kc_w12 G h1 v).map Prod.fst)[k]? = some (kf_ad (kc_GF G h0 u h1 v) k) := by
      rw [kc_adr, List.getElem?_map, List.getElem?_range hlt]; rfl
    rw [List.getElem?_map] at hz
    cases hx : (kc_w11 G h0 u ++ kc_w12 G h1 v)[k]? with
    | none => rw [hx] at hz; cases hz
    | some x => rw [hx] at hz; exact ⟨x, rfl, Option.some.inj hz⟩
  refine ⟨?_, fun a b ha hb hab => ?_⟩
  · rintro q ⟨k, hk, rfl⟩
    obtain ⟨x, z1, z2⟩ := key k hk
    rw [← z2]
    exact hD.2 k x z1
  · obtain ⟨x, x1, x2⟩ := key a ha
    obtain ⟨y, y1, y2⟩ := key b hb
    exact hD.1 a b x y x1 y1 (by rw [x2, y2]; exact hab)
