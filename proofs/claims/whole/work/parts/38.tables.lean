/-! ===== the start: what the tables say, the two constructors, then the loop ===== -/
theorem it_0 : Cond.instantiable RX0 5 ∈ kf_T := kf_ly2 167 (by decide +kernel) rfl
theorem it_1 : Cond.instantiable RX1 6 ∈ kf_T := kf_ly2 60 (by decide +kernel) rfl
theorem it_2 : Cond.instantiable RX2 3 ∈ kf_T := kf_ly1 132 (by decide +kernel) rfl
theorem it_3 : Cond.instantiable RX3 5 ∈ kf_T := kf_ly2 127 (by decide +kernel) rfl
theorem it_4 : Cond.instantiable RX4 3 ∈ kf_T := kf_ly2 151 (by decide +kernel) rfl
theorem it_5 : Cond.instantiable RX5 3 ∈ kf_T := kf_ly2 191 (by decide +kernel) rfl
theorem it_6 : Cond.instantiable RX6 8 ∈ kf_T := kf_ly2 20 (by decide +kernel) rfl
theorem it_7 : Cond.instantiable RX7 5 ∈ kf_T := kf_ly2 53 (by decide +kernel) rfl
theorem it_8 : Cond.instantiable RX8 9 ∈ kf_T := kf_ly1 31 (by decide +kernel) rfl
theorem it_9 : Cond.instantiable RX9 8 ∈ kf_T := kf_ly2 207 (by decide +kernel) rfl
theorem it_10 : Cond.instantiable RX10 17 ∈ kf_T := kf_ly1 126 (by decide +kernel) rfl
theorem it_11 : Cond.instantiable RX11 10 ∈ kf_T := kf_ly1 23 (by decide +kernel) rfl
theorem it_12 : Cond.instantiable RX12 66 ∈ kf_T := kf_ly5 221 (by decide +kernel) rfl
theorem kw_ac {ty : FieldType} {args : Array Value} {s : State} (h : (Cond.arrayClass ty).before args s = true) (hn : ∀ C, ty ≠ .object C) : ∃ cA : ClassId, ArrOfT s cA ty ∧ va_RA s cA ty := by
  obtain ⟨c, k, comp, h1, h2, h3⟩ := Cond.arrayClass_spec (args := args) (first := s) (o := none) (s := s) (idx := []) h
  refine ⟨c, fun n z => ⟨fun k h => (by cases h), k, h2, comp, h3⟩, ?_⟩
  cases ty with
  | object C => exact absurd rfl (hn C)
  | _ => exact h1
theorem kw_ao {C : String} {args : Array Value} {s : State} (h : (Cond.arrayOver (.object C)).before args s = true) : ∃ cA : ClassId, ArrOfT s cA (.object C) ∧ va_RA s cA (.object C) := by
  obtain ⟨comp, c, k, h1, -, h3, h4, h5⟩ := Cond.arrayOver_spec (args := args) (first := s) (o := none) (s := s) (idx := []) h
  exact ⟨c, fun n z => ⟨fun k h => (by cases h), k, h3, comp, h4⟩, k, comp, h3, h4, h1, h5⟩
theorem kw_T {args : Array Value} {s : State} (hts : ∀ w ∈ lw_tbl, w.before args s = true) : ∀ w ∈ kf_T, w.before args s = true := fun w h => hts w (List.mem_filter.mp h).1
def kw_tm (i : Nat) : Term := .string "KnockerFaces$Tape" (if i = 0 then 33 else 90)
set_option maxRecDepth 100000 in
theorem kw_el : ∀ i : Nat, i < 2 → ∀ j : Nat, j < kf_len.getD i 0 → Cond.eq (.elem (.field (kw_tm i) "java/lang/String" "value" "[B") (.int (Int32.ofNat j))) (.int ((kf_byt.getD i []).getD j 0)) ∈ flatC (Cond.and given_1 narrow_1) := by decide +kernel
set_option maxRecDepth 100000 in
theorem kw_e1 : ∀ i : Nat, i < 2 → Cond.exactly (kw_tm i) "java/lang/String" ∈ flatC (Cond.and given_1 narrow_1) ∧ Cond.eq (.field (kw_tm i) "java/lang/String" "coder" "B") (.int 0) ∈ flatC (Cond.and given_1 narrow_1) ∧ Cond.arrayOf (.field (kw_tm i) "java/lang/String" "value" "[B") .byte ∈ flatC (Cond.and given_1 narrow_1) ∧ Cond.eq (.length (.field (kw_tm i) "java/lang/String" "value" "[B")) (.int (Int32.ofNat (kf_len.getD i 0))) ∈ flatC (Cond.and given_1 narrow_1) := by decide +kernel
set_option maxRecDepth 100000 in
theorem kw_e2 : Cond.not (Cond.eq (kw_tm 0) (kw_tm 1)) ∈ flatC (Cond.and given_1 narrow_1) ∧ Cond.eq (.static "java/lang/String" "COMPACT_STRINGS" "Z") (.int 1) ∈ flatC (Cond.and given_1 narrow_1) ∧ Cond.isRef (.static "jdk/internal/util/Preconditions" "SIOOBE_FORMATTER" "Ljava/util/function/BiFunction;") ∈ flatC (Cond.and given_1 narrow_1) := by decide +kernel
theorem kw_G {args : Array Value} {s : State} (hts : ∀ w ∈ lw_tbl, w.before args s = true) (hgv : (Jvm.Cond.and given_1 narrow_1).before args s = true) : ∃ G : kf_G, va_K (kf_D G) kf_cl (kf_tys G) s ∧ kc_xs G (fun q => s.heap.size ≤ q) s ∧ va_AO RX1 s := by
  have hT := kw_T hts
  have hf := flat_of_before _ hgv
  have hA : ∀ a : Nat, a < s.heap.size → ¬ (fun q => s.heap.size ≤ q) a := fun a h => Nat.not_le.mpr h
  obtain ⟨c0, iS0, K0⟩ := u_known (C := RX0) (T := TX0) (N := 5) (n := 5) hT in_0 (hT _ it_0)
  obtain ⟨c1, iS1, K1⟩ := u_known (C := RX1) (T := TX1) (N := 6) (n := 6) hT in_1 (hT _ it_1)
  obtain ⟨c2, iS2, K2⟩ := u_known (C := RX2) (T := TX2) (N := 3) (n := 3) hT in_2 (hT _ it_2)
  obtain ⟨c3, iS3, K3⟩ := u_known (C := RX3) (T := TX3) (N := 5) (n := 5) hT in_3 (hT _ it_3)
  obtain ⟨c4, iS4, K4⟩ := u_known (C := RX4) (T := TX4) (N := 3) (n := 3) hT in_4 (hT _ it_4)
  obtain ⟨c5, iS5, K5⟩ := u_known (C := RX5) (T := TX5) (N := 3) (n := 3) hT in_5 (hT _ it_5)
  obtain ⟨c6, iS6, K6⟩ := u_known (C := RX6) (T := TX6) (N := 8) (n := 8) hT in_6 (hT _ it_6)
  obtain ⟨c7, iS7, K7⟩ := u_known (C := RX7) (T := TX7) (N := 5) (n := 5) hT in_7 (hT _ it_7)
  obtain ⟨c8, iS8, K8⟩ := u_known (C := RX8) (T := TX8) (N := 9) (n := 9) hT in_8 (hT _ it_8)
  obtain ⟨c9, iS9, K9⟩ := u_known (C := RX9) (T := TX9) (N := 8) (n := 8) hT in_9 (hT _ it_9)
  obtain ⟨c10, iS10, K10⟩ := u_known (C := RX10) (T := TX10) (N := 17) (n := 17) hT in_10 (hT _ it_10)
  obtain ⟨c11, iS11, K11⟩ := u_known (C := RX11) (T := TX11) (N := 10) (n := 10) hT in_11 (hT _ it_11)
  obtain ⟨c12, iS12, K12⟩ := u_known (C := RX12) (T := TX12) (N := 66) (n := 66) hT in_12 (hT _ it_12)
  obtain ⟨aI, aI1, aI2⟩ := kw_ac (hT _ ac_int) (fun C h => by cases h)
  obtain ⟨aJ, aJ1, aJ2⟩ := kw_ac (hT _ ac_long) (fun C h => by cases h)
  obtain ⟨aB, aB1, aB2⟩ := kw_ac (hT _ ac_byte) (fun C h => by cases h)
  obtain ⟨aZ, aZ1, aZ2⟩ := kw_ac (hT _ ac_boolean) (fun C h => by cases h)
  have hao : (Cond.arrayOver (.object RX1)).before args s = true := hts _ (List.mem_of_getElem? (i := 399) (by decide +kernel))
  obtain ⟨aK, aK1, aK2⟩ := kw_ao hao
  obtain ⟨adK, adV, hS, hev⟩ := vk_Sof (tm := kw_tm) (len := kf_len) (byt := kf_byt) (N := 2) (A := fun q => s.heap.size ≤ q) (by decide +kernel) (fun i hi => hf _ (kw_e1 i hi).1) (fun i hi => hf _ (kw_e1 i hi).2.1) (fun i hi => hf _ (kw_e1 i hi).2.2.1) (fun i hi => hf _ (kw_e1 i hi).2.2.2) (fun i hi j hj => hf _ (kw_el i hi j hj)) (fun i j hi hj hij => by
    rcases (show (i = 0 ∧ j = 1) ∨ (i = 1 ∧ j = 0) by omega) with ⟨rfl, rfl⟩ | ⟨rfl, rfl⟩
    · exact Or.inl (hf _ kw_e2.1)
    · exact Or.inr (hf _ kw_e2.1)) hA
  refine ⟨(fun k => [c0, c1, c2, c3, c4, c5, c6, c7, c8, c9, c10, c11, c12].getD k 0, fun k => [iS0, iS1, iS2, iS3, iS4, iS5, iS6, iS7, iS8, iS9, iS10, iS11, iS12].getD k (fun _ => 0), fun k => [aI, aJ, aB, aZ, aK].getD k 0, fun _ => 0, [], adK, adV), ⟨fun k q hq => ?_, fun k q hq => ?_⟩, ⟨?_, ?_, ?_, hS, ?_, ?_⟩, hao⟩
  · match k, hq with
    | 0, hq => cases hq; exact K0
    | 1, hq => cases hq; exact K1
    | 2, hq => cases hq; exact K2
    | 3, hq => cases hq; exact K3
    | 4, hq => cases hq; exact K4
    | 5, hq => cases hq; exact K5
    | 6, hq => cases hq; exact K6
    | 7, hq => cases hq; exact K7
    | 8, hq => cases hq; exact K8
    | 9, hq => cases hq; exact K9
    | 10, hq => cases hq; exact K10
    | 11, hq => cases hq; exact K11
    | 12, hq => cases hq; exact K12
    | k + 13, hq => simp [kf_cl] at hq
  · match k, hq with
    | 0, hq => cases hq; exact ⟨aI1, aI2⟩
    | 1, hq => cases hq; exact ⟨aJ1, aJ2⟩
    | 2, hq => cases hq; exact ⟨aB1, aB2⟩
    | 3, hq => cases hq; exact ⟨aZ1, aZ2⟩
    | 4, hq => cases hq; exact ⟨aK1, aK2⟩
    | k + 5, hq => simp at hq
  · exact va_Nw.of rfl (hts _ (List.mem_of_getElem? (i := 197) (by decide +kernel)))
  · exact vk_R.of (hts (Cond.stringRef "KnockerFaces$Tape" 33 kf_words) (List.mem_of_getElem? (i := 139) (by decide +kernel))) (hev 0 (by decide))
  · exact vk_R.of (hts (Cond.stringRef "KnockerFaces$Tape" 90 kf_signs) (List.mem_of_getElem? (i := 668) (by decide +kernel))) (hev 1 (by decide))
  · exact va_Zof (hts (Cond.laysStatic "java/lang/String" "COMPACT_STRINGS" "Z") (List.mem_of_getElem? (i := 149) (by decide +kernel))) (hts (Cond.initialized "java/lang/String") (List.mem_of_getElem? (i := 103) (by decide +kernel))) (va_eqi (hf _ kw_e2.2.1)) hA
  · exact va_Zqof (hts (Cond.laysStatic "jdk/internal/util/Preconditions" "SIOOBE_FORMATTER" "Ljava/util/function/BiFunction;") (List.mem_of_getElem? (i := 165) (by decide +kernel))) (hts (Cond.initialized "jdk/internal/util/Preconditions") (List.mem_of_getElem? (i := 105) (by decide +kernel))) (hf _ kw_e2.2.2) hA
