/-! THE CLAIM OUT OF ONE WALK OF THE LAW'S BODY. Your part is whole_start (and what it stands on); all else here is the same for every law, but numbers. -/
def R_law : String := "KnockerFacesLaw"
def lw_P (b : Addr) (xs : List Int32) (args : Array Value) (s : State) : Prop := args = #[.ref b] ∧ s.IntsAt b xs ∧ xs.length ≤ 3072 ∧ (Jvm.Cond.and given_1 narrow_1).before args s = true
def lw_Q (_ : Array Value) (s : State) (o : Outcome) (t : State) : Prop := o = .returned (some (.int 1)) ∧ Framed s o t [] 600000 7302249
def lw_Z (below : List Frame) (a : Array Value) (s : State) : State → Prop := fun t => ∃ o, t.status = .running ∧ Ended t below o ∧ lw_Q a s o t
/-- the law's own end, with 1 on the stack, nothing written that was there before, its room as the claim has it -/
theorem lw_ret {p : Program} {l : Launch} {e : Env} {s : State} {m : MethodId} {below : List Frame} {meth : Method} {c : Code} {b : Nat} (hx : p.tables.exec = Jvm.exec) (hb : c.code = code) (hr : meth.sig.returnType = ret) (hlocks : meth.locks = false) {pc : Nat} {H : Heap} {ls : Array Slot} (hdg : decode code pc = .ok (.ireturn, 1)) : W p l e room_1 s m #[Value.ref b] below meth c H [] 600000 7302249 (lw_Z below #[Value.ref b] s) (F0 m pc ls [.int 1]) := by
  intro T hT X
  obtain ⟨fs, hret, hrun, hended, hW, hframe⟩ := X.leave (v := some (.int 1)) (hlocks := hlocks) (fun h => by rw [hr] at h; cases h)
  have hmeth' : T.vm.method? m = some meth := X.method'
  refine ⟨T.setFrames fs, ?_, .returned (some (.int 1)), hrun, hended, rfl, ⟨_, rfl⟩, hW, hframe⟩
  jvm_step X.here [X.here.top, hx, hb, hdg, hmeth', hr, ret, narrow_b1]
  (try refine ⟨rfl, ?_⟩); (try refine ⟨rfl, ?_⟩)
  first | (intro acts; rw [hret _ acts rfl rfl rfl]) | rw [hret _ _ rfl rfl rfl]
  exact Steps.refl _
/-- what holds at the law's entry: the machine, the code, the tables' words (any of lw_tbl by 'hts w (by decide +kernel)'), the script of L ints xs at the cell b, what the Statement gives of the start (any of its parts by flat_of_before) -/
def lw_At (p : Program) (s : State) (m : MethodId) (meth : Method) (c : Code) (b L : Nat) (xs : Nat → Int32) : Prop :=
  p.tables.exec = Jvm.exec ∧ c.code = code ∧ meth.sig.returnType = ret ∧ c.maxLocals = 4 ∧ s.vm.findClass R_law = some m.cls ∧ (∀ w ∈ lw_tbl, w.before #[Value.ref b] s = true) ∧ va_X b L xs s s.heap ∧ b < s.heap.size ∧ meth.locks = false ∧ (Jvm.Cond.and given_1 narrow_1).before #[Value.ref b] s = true

theorem ml_L_12 : Cond.methodLink RL 12 yX12_init ∈ kf_T := kf_ly5 222 (by decide +kernel) rfl
theorem ml_L_9 : Cond.methodLink RL 9 yX11_init ∈ kf_T := kf_ly1 24 (by decide +kernel) rfl
theorem mn_X11_init : kc_mn yX11_init cX11_init 1 0 := ⟨⟨kf_ly1 26 rfl rfl, kf_ly1 1 (by decide +kernel) rfl, ⟨by decide +kernel, by decide +kernel, by decide +kernel⟩, by decide⟩, kf_ly1 25 (by decide +kernel) rfl, rfl⟩
theorem mn_X12_init : kc_mn yX12_init cX12_init 1 0 := ⟨⟨kf_ly5 224 rfl rfl, kf_ly1 17 (by decide +kernel) rfl, ⟨by decide +kernel, by decide +kernel, by decide +kernel⟩, by decide⟩, kf_ly5 223 (by decide +kernel) rfl, rfl⟩
theorem nw_L_10 : kc_NW RL 10 12 66 [.int 0, .null, .int 0, .null, .int 0, .null, .null, .null, .null, .null, .int 0, .int 0, .int 0, .int 0, .int 0, .int 0, .int 0, .int 0, .int 0, .int 0, .int 0, .null, .null, .null, .null, .null, .null, .null, .null, .null, .null, .null, .null, .null, .null, .null, .null, .int 0, .null, .null, .null, .null, .null, .int 0, .null, .null, .null, .int 0, .null, .null, .int 0, .null, .null, .int 0, .int 0, .null, .int 0, .null, .null, .null, .int 0, .null, .null, .null, .null, .null] := ⟨RX12, TX12, tyX12, rfl, in_12, tyX12_ok, kf_ly5 220 (by decide +kernel) rfl, kf_ly5 221 (by decide +kernel) rfl, kf_ly1 17 (by decide +kernel) rfl, by decide +kernel⟩
theorem nw_L_7 : kc_NW RL 7 11 10 [.null, .null, .null, .null, .null, .null, .null, .null, .null, .null] := ⟨RX11, TX11, tyX11, rfl, in_11, tyX11_ok, kf_ly1 22 (by decide +kernel) rfl, kf_ly1 23 (by decide +kernel) rfl, kf_ly1 1 (by decide +kernel) rfl, by decide +kernel⟩
theorem d_L_law_0 : kf_dq cL_law 0 3 3 (.new 7) := ⟨by decide +kernel, rfl⟩
theorem d_L_law_3 : kf_dq cL_law 3 4 1 (.dup) := ⟨by decide +kernel, rfl⟩
theorem d_L_law_4 : kf_dq cL_law 4 7 3 (.invokespecial 9) := ⟨by decide +kernel, rfl⟩
theorem d_L_law_7 : kf_dq cL_law 7 8 1 (.astore_n 1) := ⟨by decide +kernel, rfl⟩
theorem d_L_law_8 : kf_dq cL_law 8 11 3 (.new 10) := ⟨by decide +kernel, rfl⟩
theorem d_L_law_11 : kf_dq cL_law 11 12 1 (.dup) := ⟨by decide +kernel, rfl⟩
theorem d_L_law_12 : kf_dq cL_law 12 15 3 (.invokespecial 12) := ⟨by decide +kernel, rfl⟩
theorem d_L_law_15 : kf_dq cL_law 15 16 1 (.astore_n 2) := ⟨by decide +kernel, rfl⟩
theorem d_L_law_16 : kf_dq cL_law 16 17 1 (.iconst 0) := ⟨by decide +kernel, rfl⟩
theorem d_L_law_17 : kf_dq cL_law 17 18 1 (.istore_n 3) := ⟨by decide +kernel, rfl⟩
/-- what is left: the loop, as a function, answers 1 on every script -/
def kf_PURE : Prop := ∀ (L b : Nat) (xs : Nat → Int32), L ≤ 3072 → ∃ q : Int32 × kf_St, q.1 = 1 ∧ f_L_law_18 L xs kf_F b 0 77 0 kf_s0 = some q
set_option maxHeartbeats 8000000 in
set_option maxRecDepth 100000 in
theorem whole_start_open (hpure : kf_PURE) {p : Program} {e : Env} {s : State} {m : MethodId} {below : List Frame} {meth : Method} {c : Code} (l : Launch) {b L : Nat} {xs : Nat → Int32} (hL : L ≤ 3072) (C0 : lw_At p s m meth c b L xs) : W p l e room_1 s m #[Value.ref b] below meth c s.heap [] 0 0 (lw_Z below #[Value.ref b] s) (entryFrame m ([Value.ref b] : List Value).toArray 4) := by
  obtain ⟨hx, hb, hr, hml, hown, hts, hX, hbl, hlocks, hgv⟩ := id C0
  obtain ⟨G, hK, hxs, hAO⟩ := kw_G hts hgv
  have E : kc_ok (p, l, e, room_1, s, m, #[Value.ref b], below, meth, c, 0, 0) G s.heap.size cL_law RL 4 (some .boolean) 50 600000 7302249 :=
    ⟨hx, hb, hml, hown, kw_T hts, hlocks, hr, hK, hxs, Nat.le_of_ble_eq_true rfl, Nat.le_of_ble_eq_true rfl, Nat.le_refl _, Nat.le_refl _, Nat.le_refl _, hAO⟩
  have hl := lv_entry ([.ref b]) (n := 4) (Nat.le_of_ble_eq_true rfl)
  rw [lg_entry_eq]
  have hl : lv_has _ 4 [(0, .ref b)] := hl
  have main : kc_W (p, l, e, room_1, s, m, #[Value.ref b], below, meth, c, 0, 0) G s.heap.size 4 (lw_Z below #[Value.ref b] s) [] [] 0 0 0 [(0, .ref b)] [] := by
    refine wc_new (fs := [.null, .null, .null, .null, .null, .null, .null, .null, .null, .null]) nw_L_7 (Nat.le_of_ble_eq_true rfl) (Nat.le_of_ble_eq_true rfl) E d_L_law_0 (fun h0 => ?_)
    refine wc_dup rfl E d_L_law_3 ?_
    refine wc_callI (t0 := []) (rest := [.ref h0]) (k_X11_init h0) mn_X11_init ml_L_9 rfl rfl (Nat.le_of_ble_eq_true rfl) (Nat.le_of_ble_eq_true rfl) (Nat.le_of_ble_eq_true rfl) rfl (Nat.le_of_ble_eq_true rfl) E d_L_law_4 (fun u => ?_)
    refine wc_astore_n (lv' := [(1, .ref h0), (0, .ref b)]) rfl (by decide) rfl E d_L_law_7 ?_
    refine wc_new (fs := [.int 0, .null, .int 0, .null, .int 0, .null, .null, .null, .null, .null, .int 0, .int 0, .int 0, .int 0, .int 0, .int 0, .int 0, .int 0, .int 0, .int 0, .int 0, .null, .null, .null, .null, .null, .null, .null, .null, .null, .null, .null, .null, .null, .null, .null, .null, .int 0, .null, .null, .null, .null, .null, .int 0, .null, .null, .null, .int 0, .null, .null, .int 0, .null, .null, .int 0, .int 0, .null, .int 0, .null, .null, .null, .int 0, .null, .null, .null, .null, .null]) nw_L_10 (Nat.le_of_ble_eq_true rfl) (Nat.le_of_ble_eq_true rfl) E d_L_law_8 (fun h1 => ?_)
    refine wc_dup rfl E d_L_law_11 ?_
    refine wc_callI (t0 := [] ++ kc_w11 G h0 u) (rest := [.ref h1]) (k_X12_init h1) mn_X12_init ml_L_12 rfl rfl (Nat.le_of_ble_eq_true rfl) (Nat.le_of_ble_eq_true rfl) (Nat.le_of_ble_eq_true rfl) rfl (Nat.le_of_ble_eq_true rfl) E d_L_law_12 (fun v => ?_)
    refine wc_astore_n (lv' := [(2, .ref h1), (1, .ref h0), (0, .ref b)]) rfl (by decide) rfl E d_L_law_15 ?_
    refine wc_iconst 0 ic_0 E d_L_law_16 ?_
    refine wc_istore_n (lv' := [(3, .int 0), (2, .ref h1), (1, .ref h0), (0, .ref b)]) rfl (by decide) rfl E d_L_law_17 ?_
    intro H locs ls hP hD hS hl
    have h11 : va_P (kf_D G) kf_cl (kc_w11 G h0 u) H := kc_subW (kc_subR (kc_subW hP))
    have h12 : va_P (kf_D G) kf_cl (kc_w12 G h1 v) H := kc_subW (kc_subW hP)
    have hf := kc_full h11 h12
    obtain ⟨hAf, hinj⟩ := kc_adrAt (A := fun q => s.heap.size ≤ q) (G := G) (h0 := h0) (h1 := h1) (u := u) (v := v) hD
    refine va_forget (fun q hq => hS.2.2 q hq) ?_
    obtain ⟨q, hq1, hq⟩ := hpure L b xs hL
    have E2 : kf_ok (p, l, e, room_1, s, m, #[Value.ref b], below, meth, c, 0 + 1 + 76 + 1 + 44, 0 + 10 + 9690 + 66 + 12746) (kc_GF G h0 u h1 v) cL_law RL 4 (some .boolean) 42 :=
      ⟨hx, hb, hml, hown, kw_T hts, hlocks, hr, hK, kc_xs_narrow hxs hAf, Nat.le_of_ble_eq_true rfl, Nat.le_of_ble_eq_true rfl, Nat.le_of_ble_eq_true rfl, Nat.le_of_ble_eq_true rfl, hinj⟩
    refine b_L_law_18 (q := q) E2 (kf_wt_of kf_kl_ok hinj) (fun hd lv σ => ?_) hq1 kf_F b 0 77 0 ⟨hX, hbl, fun h => absurd (hAf b h) (Nat.not_le.mpr hbl)⟩ rfl rfl kf_s0 hq H [] ls hf ⟨hS.1, fun q' h1 h2 => hS.2.1 q' h1 (Nat.not_le.mpr h1), fun l h => by cases h⟩ (lv_sub hl [3, 2, 1, 0] rfl)
    intro H2 locs2 ls2 hP2 hS2 hl2
    refine va_forget (fun q' h' => hAf _ (hS2.2.2 q' h')) ?_
    refine W.widen (k := 600000) (n := 7302249) (Nat.le_of_ble_eq_true rfl) (Nat.le_of_ble_eq_true rfl) ?_
    exact lw_ret hx hb hr hlocks hd.1
  exact main s.heap [] _ (fun k q h => by simp at h) ⟨fun i j p q h => (by simp at h), fun k q h => (by simp at h)⟩ va_S.rf hl
