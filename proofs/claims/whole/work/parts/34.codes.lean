/-! the words' codes -/
def kf_zero : kf_St := (fun _ _ => 0, fun _ _ => 0)
theorem kf_some {α : Type} {x : Option α} (d : α) (h : x.isSome = true) : x = some (x.getD d) := by
  cases x with
  | none => cases h
  | some a => rfl
def kf_codesS : kf_St := (f_X8_codesOfWords_9 kf_F 3 0 0 kf_zero).getD kf_zero
def kf_codes : Nat → Int64 := kf_codesS.2 3
set_option maxRecDepth 100000 in
theorem kf_codes_ok : f_X8_codesOfWords_9 kf_F 3 0 0 kf_zero = some kf_codesS := kf_some _ (by decide +kernel)
def kc_G3 (G : kf_G) (q : Nat) : kf_G := (G.1, G.2.1, G.2.2.1, fun _ => q, [0, 0, 0, 51], G.2.2.2.2.2.1, G.2.2.2.2.2.2)
theorem kc_G3_kd (G : kf_G) (q k : Nat) : kf_kd (kc_G3 G q) k = if k = 3 then 51 else 0 := by
  match k with
  | 0 => rfl
  | 1 => rfl
  | 2 => rfl
  | 3 => rfl
  | k + 4 => simp [kf_kd, kc_G3]
theorem kc_G3_wt (G : kf_G) (q : Nat) : kf_wt (kc_G3 G q) := by
  refine ⟨fun a b ha hb _ => ?_, fun k c j t h hc => ?_, fun k j h => ?_⟩
  · rw [kc_G3_kd] at ha hb
    by_cases h1 : a = 3
    · by_cases h2 : b = 3
      · rw [h1, h2]
      · rw [if_neg h2] at hb; exact absurd rfl hb
    · rw [if_neg h1] at ha; exact absurd rfl ha
  · rw [kc_G3_kd] at h
    by_cases h1 : k = 3
    · rw [if_pos h1] at h; omega
    · rw [if_neg h1] at h; omega
  · rw [kc_G3_kd] at h
    by_cases h1 : k = 3
    · rw [if_pos h1] at h; omega
    · rw [if_neg h1] at h; omega
theorem kc_G3_W (G : kf_G) (q : Nat) (σ : kf_St) : kf_W (kc_G3 G q) σ = [(q, .inl (kf_aC G 1, 21, .inr (.inl (σ.2 3))))] := rfl
set_option maxRecDepth 100000 in
set_option maxHeartbeats 4000000 in
theorem k_X8_codesOfWords {G : kf_G} {B : Nat} : kc_Ct 7 1 21 yX8_codesOfWords cX8_codesOfWords 4 (some (.array .long)) G B [] [] (fun u => some (.ref (u 0))) (fun u => [(u 0, .inl (kf_aC G 1, 21, .inr (.inl kf_codes)))]) := by
  intro l wr
  refine Met.ofW (cc := cX8_codesOfWords) (maxL := 4) (ret := some (.array .long)) (by decide +kernel) rfl ?_
  intro p e s m args below meth c s₁ Bd hml hv
  obtain ⟨rfl, hP, hD, hK, hX, hB, hAO⟩ := hv
  rw [List.append_nil] at hP hD
  have hts0 := atoms_spec (ws := Cond.code yX8_codesOfWords cX8_codesOfWords 4 (some (.array .long)) :: kf_T) Bd.pre
  have hts : ∀ w ∈ kf_T, w.before ([] : List Value).toArray s = true := fun w h => hts0 w (List.mem_cons_of_mem _ h)
  have hl := lv_entry ([] : List Value) (n := 4) (Nat.zero_le _)
  rw [lg_entry_eq]
  have hl : lv_has _ 4 [] := hl
  refine lv_bipush (v := 21) Bd.exec Bd.bytes d_X8_codesOfWords_0.1 bp_21 ?_
  refine va_newa (atype := .long) (a0 := (21, .inr (.inl (fun _ => 0)))) (D := kf_D G) (cl := kf_cl) (tys := kf_tys G) (ws := []) (A := fun q => s.heap.size ≤ q) (H0 := s.heap) Bd.exec Bd.bytes (hts _ ac_long) rfl hK (fun k q h => by simp at h) ⟨fun i j p q h => (by simp at h), fun k q h => (by simp at h)⟩ va_S.rf (fun q h => h) (fun cA => rfl) (by decide) (by decide) (by decide) (Nat.le_refl _) (Nat.le_refl _) d_X8_codesOfWords_2.1 (fun q cA H1 hK1 hP1 hD1 hS1 => ?_)
  have e1 := (hK1.2 5 _ rfl).2
  have e2 := (hK.2 1 _ rfl).2
  have e3 : cA = kf_aC G 1 := Option.some.inj (e1.symm.trans e2)
  subst e3
  have hq : s.heap.size ≤ q := hD1.2 0 _ rfl
  refine lv_astore_n (lv' := [(0, .ref q)]) Bd.exec Bd.bytes d_X8_codesOfWords_4.1 rfl hl (by decide) rfl (fun ls hl => ?_)
  refine lv_iconst (v := 0) Bd.exec Bd.bytes d_X8_codesOfWords_5.1 ic_0 ?_
  refine lv_istore_n (lv' := [(1, .int 0), (0, .ref q)]) Bd.exec Bd.bytes d_X8_codesOfWords_6.1 rfl hl (by decide) rfl (fun ls hl => ?_)
  refine lv_iconst (v := 0) Bd.exec Bd.bytes d_X8_codesOfWords_7.1 ic_0 ?_
  refine lv_istore_n (lv' := [(2, .int 0), (1, .int 0), (0, .ref q)]) Bd.exec Bd.bytes d_X8_codesOfWords_8.1 rfl hl (by decide) rfl (fun ls hl => ?_)
  have hA3 : ∀ q', kf_A (kc_G3 G q) q' → q' = q := fun q' h => by obtain ⟨k, -, h2⟩ := h; exact h2
  have hxs : kf_xs (kc_G3 G q) s := kc_xs_narrow hX (fun q' h => by rw [hA3 q' h]; exact Nat.le_trans hB hq)
  have hE : kf_ok (p, l, e, (headSpec (Cond.code yX8_codesOfWords cX8_codesOfWords 4 (some (.array .long)) :: kf_T) (kc_room 7 1 21)).room, s, m, ([] : List Value).toArray, below, meth, c, 0 + 1, 0 + 21) (kc_G3 G q) cX8_codesOfWords RX8 4 (some (.array .long)) 6 :=
    ⟨Bd.exec, Bd.bytes, hml, findClass_of_methodNamed Bd.named, hts, Bd.notSynchronized, Bd.returns, hK, hxs, (by show 6 ≤ 7; omega), (by show 64 * 6 ≤ 64 * 7; omega), Nat.le_refl _, Nat.le_refl _, (kc_G3_wt G q).1⟩
  refine b_X8_codesOfWords_9 (q := kf_codesS) hE (kc_G3_wt G q) (fun hd lv v0 => ?_) kf_F 3 0 0 rfl kf_zero kf_codes_ok H1 [] ls (by rw [kc_G3_W]; exact hP1) ⟨hS1.1, fun q' h1 h2 => hS1.2.1 q' h1 (Nat.not_le.mpr h1), fun l h => by cases h⟩ (lv_sub hl [2, 1, 0] rfl)
  intro H2 locs2 ls2 hP2 hS2 hl2
  rw [kc_G3_W] at hP2
  have hPt : va_P (kf_D G) kf_cl (wr ++ [(q, .inl (kf_aC G 1, 21, .inr (.inl kf_codes)))]) H2 := by
    refine va_P.app (hP.kept (fun i x hx => ?_)) hP2
    have hlt := (hP i x hx).lt
    exact hS2.2.1 x.1 hlt (fun h => by have := hA3 _ h; omega)
  have hDt : va_D (fun q => B ≤ q) (wr ++ [(q, .inl (kf_aC G 1, 21, .inr (.inl kf_codes)))]) := by
    refine va_D.app hD ⟨fun i j x y hx hy _ => ?_, fun i x hx => ?_⟩ (fun i j x y hx hy h => ?_)
    · have h1 := (List.getElem?_eq_some_iff.mp hx).1
      have h2 := (List.getElem?_eq_some_iff.mp hy).1
      simp only [List.length_cons, List.length_nil] at h1 h2
      omega
    · have h1 := (List.getElem?_eq_some_iff.mp hx).1
      simp only [List.length_cons, List.length_nil] at h1
      rw [show i = 0 by omega] at hx
      cases hx
      exact Nat.le_trans hB hq
    · have h1 := (List.getElem?_eq_some_iff.mp hy).1
      simp only [List.length_cons, List.length_nil] at h1
      rw [show j = 0 by omega] at hy
      cases hy
      have hlt := (hP i x hx).lt
      have h : x.1 = q := h
      omega
  exact W.aret Bd.exec Bd.bytes Bd.returns (Or.inr ⟨_, rfl⟩) (Or.inr ⟨_, rfl⟩) (fun t ht hW => ⟨⟨fun _ => q, rfl, by rw [ht]; exact hPt, hDt⟩, ⟨by rw [ht]; exact hS2.1, fun q' h1 h2 => by rw [ht]; exact hS2.2.1 q' h1 (fun h => h2 (by rw [hA3 _ h]; exact Nat.le_trans hB hq))⟩⟩) (fun x hx => by rw [hA3 _ (hS2.2.2 x hx)]; exact Nat.le_trans hB hq) hd.1 Bd.notSynchronized
theorem mi_X8_codesOfWords : kf_mi yX8_codesOfWords cX8_codesOfWords 4 (some (.array .long)) 0 := ⟨kf_ly1 38 (by decide +kernel) rfl, kf_ly1 2 (by decide +kernel) rfl, ⟨by decide +kernel, by decide +kernel, by decide +kernel⟩, by decide⟩
theorem mt_X8_codesOfWords : kf_mt yX8_codesOfWords cX8_codesOfWords 4 (some (.array .long)) 0 := ⟨mi_X8_codesOfWords, kf_ly1 37 (by decide +kernel) rfl⟩
theorem ml_X8_15 : Cond.methodLink RX8 15 yX8_codesOfWords ∈ kf_T := kf_ly1 36 (by decide +kernel) rfl
theorem fpf_8_1 : kc_FPF 8 1 RX8 (.array .byte) := ⟨RX8, TX8, 9, tyX8, rfl, tyX8_ok, nmX8, rfl, rfl, by decide +kernel⟩
theorem fpf_8_2 : kc_FPF 8 2 RX8 (.array .long) := ⟨RX8, TX8, 9, tyX8, rfl, tyX8_ok, nmX8, rfl, rfl, by decide +kernel⟩
theorem fpf_8_3 : kc_FPF 8 3 RX8 (.array .int) := ⟨RX8, TX8, 9, tyX8, rfl, tyX8_ok, nmX8, rfl, rfl, by decide +kernel⟩
theorem fpf_8_4 : kc_FPF 8 4 RX8 (.array .int) := ⟨RX8, TX8, 9, tyX8, rfl, tyX8_ok, nmX8, rfl, rfl, by decide +kernel⟩
theorem fpf_8_5 : kc_FPF 8 5 RX8 (.array .long) := ⟨RX8, TX8, 9, tyX8, rfl, tyX8_ok, nmX8, rfl, rfl, by decide +kernel⟩
theorem oml_X8_3 : Cond.methodLink RX8 3 Lib.objectInit ∈ kf_T := kf_ly1 35 (by decide +kernel) rfl
theorem d_X8_init_0 : kf_dq cX8_init 0 1 1 (.aload_n 0) := ⟨by decide +kernel, rfl⟩
theorem d_X8_init_1 : kf_dq cX8_init 1 4 3 (.invokespecial 3) := ⟨by decide +kernel, rfl⟩
theorem d_X8_init_4 : kf_dq cX8_init 4 5 1 (.aload_n 0) := ⟨by decide +kernel, rfl⟩
theorem d_X8_init_5 : kf_dq cX8_init 5 8 3 (.sipush 2000) := ⟨by decide +kernel, rfl⟩
theorem d_X8_init_8 : kf_dq cX8_init 8 10 2 (.newarray .byte) := ⟨by decide +kernel, rfl⟩
theorem d_X8_init_10 : kf_dq cX8_init 10 13 3 (.putfield 11) := ⟨by decide +kernel, rfl⟩
theorem d_X8_init_13 : kf_dq cX8_init 13 14 1 (.aload_n 0) := ⟨by decide +kernel, rfl⟩
theorem d_X8_init_14 : kf_dq cX8_init 14 17 3 (.invokestatic 15) := ⟨by decide +kernel, rfl⟩
theorem d_X8_init_17 : kf_dq cX8_init 17 20 3 (.putfield 19) := ⟨by decide +kernel, rfl⟩
theorem d_X8_init_20 : kf_dq cX8_init 20 21 1 (.aload_n 0) := ⟨by decide +kernel, rfl⟩
theorem d_X8_init_21 : kf_dq cX8_init 21 24 3 (.sipush 401) := ⟨by decide +kernel, rfl⟩
theorem d_X8_init_24 : kf_dq cX8_init 24 26 2 (.newarray .int) := ⟨by decide +kernel, rfl⟩
theorem d_X8_init_26 : kf_dq cX8_init 26 29 3 (.putfield 23) := ⟨by decide +kernel, rfl⟩
theorem d_X8_init_29 : kf_dq cX8_init 29 30 1 (.aload_n 0) := ⟨by decide +kernel, rfl⟩
theorem d_X8_init_30 : kf_dq cX8_init 30 33 3 (.sipush 401) := ⟨by decide +kernel, rfl⟩
theorem d_X8_init_33 : kf_dq cX8_init 33 35 2 (.newarray .int) := ⟨by decide +kernel, rfl⟩
theorem d_X8_init_35 : kf_dq cX8_init 35 38 3 (.putfield 27) := ⟨by decide +kernel, rfl⟩
theorem d_X8_init_38 : kf_dq cX8_init 38 39 1 (.aload_n 0) := ⟨by decide +kernel, rfl⟩
theorem d_X8_init_39 : kf_dq cX8_init 39 42 3 (.sipush 401) := ⟨by decide +kernel, rfl⟩
theorem d_X8_init_42 : kf_dq cX8_init 42 44 2 (.newarray .long) := ⟨by decide +kernel, rfl⟩
theorem d_X8_init_44 : kf_dq cX8_init 44 47 3 (.putfield 30) := ⟨by decide +kernel, rfl⟩
theorem d_X8_init_47 : kf_dq cX8_init 47 48 1 (.return_) := ⟨by decide +kernel, rfl⟩
set_option maxRecDepth 100000 in
set_option maxHeartbeats 8000000 in
theorem k_X8_init {G : kf_G} {B : Nat} (h0 : Nat) : kc_Ct 8 5 3224 yX8_init cX8_init 1 none G B [.ref h0] [(h0, .inr (8, [.int 0, .null, .null, .null, .null, .null, .int 0, .int 0, .long 0]))] (fun _ => none) (fun u => [(h0, .inr (8, [.int 0, .ref (u 0), .ref (u 1), .ref (u 2), .ref (u 3), .ref (u 4), .int 0, .int 0, .long 0])), ((u 0), .inl (kf_aC G 2, 2000, .inl (fun _ => 0))), ((u 1), .inl (kf_aC G 1, 21, .inr (.inl kf_codes))), ((u 2), .inl (kf_aC G 0, 401, .inl (fun _ => 0))), ((u 3), .inl (kf_aC G 0, 401, .inl (fun _ => 0))), ((u 4), .inl (kf_aC G 1, 401, .inr (.inl (fun _ => 0))))]) := by
  refine kc_Ct.of (lv := [(0, .ref h0)]) (by decide +kernel) rfl (Nat.le_of_ble_eq_true rfl) (fun X wr E hname => ?_)
  refine wc_aload_n 0 rfl E d_X8_init_0 ?_
  refine wc_objInit oml_X8_3 oi_i oi_c (Nat.le_of_ble_eq_true rfl) (Nat.le_of_ble_eq_true rfl) E d_X8_init_1 ?_
  refine wc_aload_n 0 rfl E d_X8_init_4 ?_
  refine wc_sipush 2000 sp_2000 E d_X8_init_5 ?_
  refine wc_newa2 (N := 2000) ac_byte (by decide) (by decide) (by decide) (Nat.le_of_ble_eq_true rfl) (Nat.le_of_ble_eq_true rfl) E d_X8_init_8 (fun q1 => ?_)
  refine kc_tl (tl' := [(h0, .inr (8, [.int 0, .null, .null, .null, .null, .null, .int 0, .int 0, .long 0])), (q1, .inl (kf_aC G 2, 2000, .inl (fun _ => 0)))]) rfl ?_
  refine wc_putF (i := 0) (tl' := [(h0, .inr (8, [.int 0, .ref q1, .null, .null, .null, .null, .int 0, .int 0, .long 0])), (q1, .inl (kf_aC G 2, 2000, .inl (fun _ => 0)))]) fl_X8_11 fpf_8_1 hname rfl rfl rfl (Nat.le_of_ble_eq_true rfl) rfl E d_X8_init_10 ?_
  refine wc_aload_n 0 rfl E d_X8_init_13 ?_
  refine wc_callM k_X8_codesOfWords mt_X8_codesOfWords ml_X8_15 rfl (Nat.le_of_ble_eq_true rfl) (Nat.le_of_ble_eq_true rfl) (Nat.le_of_ble_eq_true rfl) rfl (Nat.le_of_ble_eq_true rfl) E d_X8_init_14 (fun u2 => ?_)
  refine kc_tl (tl' := [(h0, .inr (8, [.int 0, .ref q1, .null, .null, .null, .null, .int 0, .int 0, .long 0])), (q1, .inl (kf_aC G 2, 2000, .inl (fun _ => 0))), ((u2 0), .inl (kf_aC G 1, 21, .inr (.inl kf_codes)))]) rfl ?_
  refine wc_putF (i := 0) (tl' := [(h0, .inr (8, [.int 0, .ref q1, .ref (u2 0), .null, .null, .null, .int 0, .int 0, .long 0])), (q1, .inl (kf_aC G 2, 2000, .inl (fun _ => 0))), ((u2 0), .inl (kf_aC G 1, 21, .inr (.inl kf_codes)))]) fl_X8_19 fpf_8_2 hname rfl rfl rfl (Nat.le_of_ble_eq_true rfl) rfl E d_X8_init_17 ?_
  refine wc_aload_n 0 rfl E d_X8_init_20 ?_
  refine wc_sipush 401 sp_401 E d_X8_init_21 ?_
  refine wc_newa0 (N := 401) ac_int (by decide) (by decide) (by decide) (Nat.le_of_ble_eq_true rfl) (Nat.le_of_ble_eq_true rfl) E d_X8_init_24 (fun q3 => ?_)
  refine kc_tl (tl' := [(h0, .inr (8, [.int 0, .ref q1, .ref (u2 0), .null, .null, .null, .int 0, .int 0, .long 0])), (q1, .inl (kf_aC G 2, 2000, .inl (fun _ => 0))), ((u2 0), .inl (kf_aC G 1, 21, .inr (.inl kf_codes))), (q3, .inl (kf_aC G 0, 401, .inl (fun _ => 0)))]) rfl ?_
  refine wc_putF (i := 0) (tl' := [(h0, .inr (8, [.int 0, .ref q1, .ref (u2 0), .ref q3, .null, .null, .int 0, .int 0, .long 0])), (q1, .inl (kf_aC G 2, 2000, .inl (fun _ => 0))), ((u2 0), .inl (kf_aC G 1, 21, .inr (.inl kf_codes))), (q3, .inl (kf_aC G 0, 401, .inl (fun _ => 0)))]) fl_X8_23 fpf_8_3 hname rfl rfl rfl (Nat.le_of_ble_eq_true rfl) rfl E d_X8_init_26 ?_
  refine wc_aload_n 0 rfl E d_X8_init_29 ?_
  refine wc_sipush 401 sp_401 E d_X8_init_30 ?_
  refine wc_newa0 (N := 401) ac_int (by decide) (by decide) (by decide) (Nat.le_of_ble_eq_true rfl) (Nat.le_of_ble_eq_true rfl) E d_X8_init_33 (fun q4 => ?_)
  refine kc_tl (tl' := [(h0, .inr (8, [.int 0, .ref q1, .ref (u2 0), .ref q3, .null, .null, .int 0, .int 0, .long 0])), (q1, .inl (kf_aC G 2, 2000, .inl (fun _ => 0))), ((u2 0), .inl (kf_aC G 1, 21, .inr (.inl kf_codes))), (q3, .inl (kf_aC G 0, 401, .inl (fun _ => 0))), (q4, .inl (kf_aC G 0, 401, .inl (fun _ => 0)))]) rfl ?_
  refine wc_putF (i := 0) (tl' := [(h0, .inr (8, [.int 0, .ref q1, .ref (u2 0), .ref q3, .ref q4, .null, .int 0, .int 0, .long 0])), (q1, .inl (kf_aC G 2, 2000, .inl (fun _ => 0))), ((u2 0), .inl (kf_aC G 1, 21, .inr (.inl kf_codes))), (q3, .inl (kf_aC G 0, 401, .inl (fun _ => 0))), (q4, .inl (kf_aC G 0, 401, .inl (fun _ => 0)))]) fl_X8_27 fpf_8_4 hname rfl rfl rfl (Nat.le_of_ble_eq_true rfl) rfl E d_X8_init_35 ?_
  refine wc_aload_n 0 rfl E d_X8_init_38 ?_
  refine wc_sipush 401 sp_401 E d_X8_init_39 ?_
  refine wc_newa1 (N := 401) ac_long (by decide) (by decide) (by decide) (Nat.le_of_ble_eq_true rfl) (Nat.le_of_ble_eq_true rfl) E d_X8_init_42 (fun q5 => ?_)
  refine kc_tl (tl' := [(h0, .inr (8, [.int 0, .ref q1, .ref (u2 0), .ref q3, .ref q4, .null, .int 0, .int 0, .long 0])), (q1, .inl (kf_aC G 2, 2000, .inl (fun _ => 0))), ((u2 0), .inl (kf_aC G 1, 21, .inr (.inl kf_codes))), (q3, .inl (kf_aC G 0, 401, .inl (fun _ => 0))), (q4, .inl (kf_aC G 0, 401, .inl (fun _ => 0))), (q5, .inl (kf_aC G 1, 401, .inr (.inl (fun _ => 0))))]) rfl ?_
  refine wc_putF (i := 0) (tl' := [(h0, .inr (8, [.int 0, .ref q1, .ref (u2 0), .ref q3, .ref q4, .ref q5, .int 0, .int 0, .long 0])), (q1, .inl (kf_aC G 2, 2000, .inl (fun _ => 0))), ((u2 0), .inl (kf_aC G 1, 21, .inr (.inl kf_codes))), (q3, .inl (kf_aC G 0, 401, .inl (fun _ => 0))), (q4, .inl (kf_aC G 0, 401, .inl (fun _ => 0))), (q5, .inl (kf_aC G 1, 401, .inr (.inl (fun _ => 0))))]) fl_X8_30 fpf_8_5 hname rfl rfl rfl (Nat.le_of_ble_eq_true rfl) rfl E d_X8_init_44 ?_
  exact kc_vret (fun i => [q1, (u2 0), q3, q4, q5].getD i 0) rfl rfl E d_X8_init_47
