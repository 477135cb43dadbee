/-! ===== constructors: the world is a list that is written out, behind any other cells ===== -/
def kc_xs (G : kf_G) (A : Nat → Prop) (U : State) : Prop := va_Nw (.fieldLinkNest "KnockerFaces$Reader" 58 "KnockerFaces$Tape" "kinds" "[I" "KnockerFaces") U ∧ vk_R "KnockerFaces$Tape" 33 kf_words (G.2.2.2.2.2.1 0) U ∧ vk_R "KnockerFaces$Tape" 90 kf_signs (G.2.2.2.2.2.1 1) U ∧ vk_S 2 kf_len kf_byt G.2.2.2.2.2.1 G.2.2.2.2.2.2 A U U.heap ∧ va_Z "java/lang/String" "COMPACT_STRINGS" "Z" (.int 1) A U U.heap ∧ va_Zq "jdk/internal/util/Preconditions" "SIOOBE_FORMATTER" "Ljava/util/function/BiFunction;" A U U.heap
theorem kc_xs_moved {G : kf_G} {A : Nat → Prop} {s U : State} (hW : s.WarmedH U.vm) (hq : ∀ q : Nat, q < s.heap.size → ¬ A q → U.heap[q]? = s.heap[q]?) (h : kc_xs G A s) : kc_xs G A U := by
  obtain ⟨h1, h2, h3, h4, h5, h6⟩ := h
  exact ⟨h1.warmF hW, h2.warm hW, h3.warm hW, (h4.moved hW.alike).kept hq, (h5.moved hW.alike).kept hq, (h6.moved hW.alike).kept hq⟩
theorem kc_xs_narrow {G : kf_G} {A B : Nat → Prop} {U : State} (h : kc_xs G A U) (hAB : ∀ q, B q → A q) : kc_xs G B U := by
  obtain ⟨h1, h2, h3, h4, h5, h6⟩ := h
  exact ⟨h1, h2, h3, h4.narrow hAB, h5.narrow hAB, h6.narrow hAB⟩
/-- what a constructor's frame stands on: B is where new cells begin -/
def kc_ok (X : kf_X) (G : kf_G) (B : Nat) (cc : ByteArray) (own : String) (nL : Nat) (ret : Option FieldType) (d MC MS : Nat) : Prop :=
  (kx_p X).tables.exec = Jvm.exec ∧ (kx_c X).code = cc ∧ (kx_c X).maxLocals = nL ∧ (kx_s X).vm.findClass own = some (kx_m X).cls ∧ (∀ w ∈ kf_T, w.before (kx_a X) (kx_s X) = true) ∧ (kx_t X).locks = false ∧ (kx_t X).sig.returnType = ret ∧
  va_K (kf_D G) kf_cl (kf_tys G) (kx_s X) ∧ kc_xs G (fun q => B ≤ q) (kx_s X) ∧ d ≤ (kx_R X).frames ∧ 64 * d ≤ (kx_R X).locals ∧ MC ≤ (kx_R X).cells ∧ MS ≤ (kx_R X).slots ∧ B ≤ (kx_s X).heap.size ∧ va_AO RX1 (kx_s X)
def kc_W (X : kf_X) (G : kf_G) (B : Nat) (nL : Nat) (Q : State → Prop) (wr tl : va_W) (n k pc : Nat) (lv : List (Nat × Value)) (st : List Value) : Prop :=
  ∀ (H : Heap) (locs : List Loc) (ls : Array Slot), va_P (kf_D G) kf_cl (wr ++ tl) H → va_D (fun q => B ≤ q) (wr ++ tl) → va_S (fun q => B ≤ q) (kx_s X).heap H locs → lv_has ls nL lv → W (kx_p X) (kx_l X) (kx_e X) (kx_R X) (kx_s X) (kx_m X) (kx_a X) (kx_b X) (kx_t X) (kx_c X) H locs n k Q (F0 (kx_m X) pc ls st)
def kc_room (d mc ms : Nat) : Room := { frames := d, cells := mc, slots := ms, locals := 64 * d }
def kc_U (G : kf_G) (B : Nat) (ws : va_W) (U : State) : Prop := va_P (kf_D G) kf_cl ws U.heap ∧ va_D (fun q => B ≤ q) ws ∧ va_K (kf_D G) kf_cl (kf_tys G) U ∧ kc_xs G (fun q => B ≤ q) U ∧ B ≤ U.heap.size ∧ va_AO RX1 U
def kc_Qc (G : kf_G) (B : Nat) (o : (Nat → Nat) → Option Value) (wr : va_W) (ws1 : (Nat → Nat) → va_W) : Array Value → State → Outcome → State → Prop := fun _ st oc t => (∃ u : Nat → Nat, oc = .returned (o u) ∧ va_P (kf_D G) kf_cl (wr ++ ws1 u) t.heap ∧ va_D (fun q => B ≤ q) (wr ++ ws1 u)) ∧ va_F (fun q => B ≤ q) st t
/-- a constructor's contract: ws0 is what it begins with, ws1 what it ends with, any other cells stay -/
def kc_Ct (d mc ms : Nat) (y : MethodName) (cc : ByteArray) (mL : Nat) (ret : Option FieldType) (G : kf_G) (B : Nat) (av : List Value) (ws0 : va_W) (o : (Nat → Nat) → Option Value) (ws1 : (Nat → Nat) → va_W) : Prop :=
  ∀ (l : Launch) (wr : va_W), Met l y (Cond.code y cc mL ret :: kf_T) (kc_room d mc ms) (va_Pc av (kc_U G B (wr ++ ws0))) (kc_Qc G B o wr ws1) mc ms (fun q => B ≤ q)
def kc_Q (X : kf_X) (G : kf_G) (B : Nat) (o : (Nat → Nat) → Option Value) (wr : va_W) (ws1 : (Nat → Nat) → va_W) (mc ms : Nat) : State → Prop := MQ (kx_b X) (kc_Qc G B o wr ws1) (kx_a X) (kx_s X) mc ms (fun q => B ≤ q)
section KC
variable {X : kf_X} {G : kf_G} {B : Nat} {cc : ByteArray} {own : String} {nL : Nat} {ret : Option FieldType} {d MC MS : Nat} {Q : State → Prop} {wr tl : va_W} {n k pc pc1 tgt : Nat} {lv : List (Nat × Value)} {st : List Value}
theorem kc_Ct.of {y : MethodName} {mL mc ms : Nat} {av : List Value} {ws0 : va_W} {o : (Nat → Nat) → Option Value} {ws1 : (Nat → Nat) → va_W} (hy : plainName y.cls = true) (hlv : lv_args 0 av = lv) (hlen : (lg_sl av).length ≤ mL)
    (body : ∀ (X : kf_X) (wr : va_W), kc_ok X G B cc y.cls mL ret d mc ms → (kx_t X).name = y.name → kc_W X G B mL (kc_Q X G B o wr ws1 mc ms) wr ws0 0 0 0 lv []) : kc_Ct d mc ms y cc mL ret G B av ws0 o ws1 := by
  intro l wr
  refine Met.ofW (cc := cc) (maxL := mL) (ret := ret) hy rfl ?_
  intro p e s m args below meth c s₁ Bd hml hv
  obtain ⟨rfl, hP, hD, hK, hX, hB, hAO⟩ := hv
  have hts := atoms_spec (ws := Cond.code y cc mL ret :: kf_T) Bd.pre
  have hE : kc_ok (p, l, e, (headSpec (Cond.code y cc mL ret :: kf_T) (kc_room d mc ms)).room, s, m, av.toArray, below, meth, c, 0, 0) G B cc y.cls mL ret d mc ms :=
    ⟨Bd.exec, Bd.bytes, hml, findClass_of_methodNamed Bd.named, fun w h => hts w (List.mem_cons_of_mem _ h), Bd.notSynchronized, Bd.returns, hK, hX, Nat.le_refl _, Nat.le_refl _, Nat.le_refl _, Nat.le_refl _, hB, hAO⟩
  have hl := lv_entry av (n := mL) hlen
  rw [lg_entry_eq]
  rw [hlv] at hl
  exact body _ wr hE (name_of_methodNamed Bd.named Bd.method).1 s.heap [] _ hP hD va_S.rf hl
theorem kc_at {i : Nat} {x : Nat × va_E} (h : tl[i]? = some x) : (wr ++ tl)[wr.length + i]? = some x := by
  rw [List.getElem?_append_right (by omega), Nat.add_sub_cancel_left]; exact h
theorem kc_set {i : Nat} {x : Nat × va_E} (h : i < tl.length) : (wr ++ tl).set (wr.length + i) x = wr ++ tl.set i x := by
  rw [List.set_append, if_neg (by omega), Nat.add_sub_cancel_left]
theorem wc_iconst {z : Int} (v : Int32) (hv : Int32.ofInt z = v) (E : kc_ok X G B cc own nL ret d MC MS) (hd : kf_dq cc pc pc1 1 (.iconst z)) (kk : kc_W X G B nL Q wr tl n k pc1 lv (.int v :: st)) : kc_W X G B nL Q wr tl n k pc lv (st) := by
  obtain ⟨hd, rfl⟩ := hd
  intro H locs ls hP hD hS hl
  exact lv_iconst E.1 E.2.1 hd hv (kk H locs ls hP hD hS hl)
theorem wc_bipush {z : Int} (v : Int32) (hv : (Int8.ofInt z).toInt32 = v) (E : kc_ok X G B cc own nL ret d MC MS) (hd : kf_dq cc pc pc1 2 (.bipush z)) (kk : kc_W X G B nL Q wr tl n k pc1 lv (.int v :: st)) : kc_W X G B nL Q wr tl n k pc lv (st) := by
  obtain ⟨hd, rfl⟩ := hd
  intro H locs ls hP hD hS hl
  exact lv_bipush E.1 E.2.1 hd hv (kk H locs ls hP hD hS hl)
theorem wc_sipush {z : Int} (v : Int32) (hv : (Int16.ofInt z).toInt32 = v) (E : kc_ok X G B cc own nL ret d MC MS) (hd : kf_dq cc pc pc1 3 (.sipush z)) (kk : kc_W X G B nL Q wr tl n k pc1 lv (.int v :: st)) : kc_W X G B nL Q wr tl n k pc lv (st) := by
  obtain ⟨hd, rfl⟩ := hd
  intro H locs ls hP hD hS hl
  exact lv_sipush E.1 E.2.1 hd hv (kk H locs ls hP hD hS hl)
theorem wc_iload_n {i : Fin 4} {x : Int32} (q : Nat) (hq : lv[q]? = some ((i : Nat), .int x)) (E : kc_ok X G B cc own nL ret d MC MS) (hd : kf_dq cc pc pc1 1 (.iload_n i)) (kk : kc_W X G B nL Q wr tl n k pc1 lv (.int x :: st)) : kc_W X G B nL Q wr tl n k pc lv (st) := by
  obtain ⟨hd, rfl⟩ := hd
  intro H locs ls hP hD hS hl
  exact lv_iload_n E.1 E.2.1 hd rfl (lv_at hl q hq) (kk H locs ls hP hD hS hl)
theorem wc_lload_n {i : Fin 4} {x : Int64} (q : Nat) (hq : lv[q]? = some ((i : Nat), .long x)) (E : kc_ok X G B cc own nL ret d MC MS) (hd : kf_dq cc pc pc1 1 (.lload_n i)) (kk : kc_W X G B nL Q wr tl n k pc1 lv (.long x :: st)) : kc_W X G B nL Q wr tl n k pc lv (st) := by
  obtain ⟨hd, rfl⟩ := hd
  intro H locs ls hP hD hS hl
  exact lv_lload_n E.1 E.2.1 hd rfl (lv_at hl q hq) (kk H locs ls hP hD hS hl)
theorem wc_aload_n {i : Fin 4} {x : Nat} (q : Nat) (hq : lv[q]? = some ((i : Nat), .ref x)) (E : kc_ok X G B cc own nL ret d MC MS) (hd : kf_dq cc pc pc1 1 (.aload_n i)) (kk : kc_W X G B nL Q wr tl n k pc1 lv (.ref x :: st)) : kc_W X G B nL Q wr tl n k pc lv (st) := by
  obtain ⟨hd, rfl⟩ := hd
  intro H locs ls hP hD hS hl
  exact lv_aload_n E.1 E.2.1 hd rfl (lv_at hl q hq) (kk H locs ls hP hD hS hl)
theorem wc_dup {va : Value} (hva : va.category = 1) (E : kc_ok X G B cc own nL ret d MC MS) (hd : kf_dq cc pc pc1 1 (.dup)) (kk : kc_W X G B nL Q wr tl n k pc1 lv (va :: va :: st)) : kc_W X G B nL Q wr tl n k pc lv (va :: st) := by
  obtain ⟨hd, rfl⟩ := hd
  intro H locs ls hP hD hS hl
  exact lv_dup E.1 E.2.1 hd hva (kk H locs ls hP hD hS hl)
theorem wc_istore_n {z : Fin 4} {i : Nat} {x : Int32} {lv' : List (Nat × Value)} (hi : (z : Nat) = i) (hn : i < nL) (hl' : (i, Value.int x) :: lv.filter (fun q => !(q.1 == i) && !(q.1 + 1 == i && q.2.category == 2)) = lv') (E : kc_ok X G B cc own nL ret d MC MS) (hd : kf_dq cc pc pc1 1 (.istore_n z)) (kk : kc_W X G B nL Q wr tl n k pc1 lv' st) : kc_W X G B nL Q wr tl n k pc lv (.int x :: st) := by
  obtain ⟨hd, rfl⟩ := hd
  intro H locs ls hP hD hS hl
  exact lv_istore_n E.1 E.2.1 hd hi hl hn hl' (fun ls' h' => kk H locs ls' hP hD hS h')
theorem wc_astore_n {z : Fin 4} {i : Nat} {x : Nat} {lv' : List (Nat × Value)} (hi : (z : Nat) = i) (hn : i < nL) (hl' : (i, Value.ref x) :: lv.filter (fun q => !(q.1 == i) && !(q.1 + 1 == i && q.2.category == 2)) = lv') (E : kc_ok X G B cc own nL ret d MC MS) (hd : kf_dq cc pc pc1 1 (.astore_n z)) (kk : kc_W X G B nL Q wr tl n k pc1 lv' st) : kc_W X G B nL Q wr tl n k pc lv (.ref x :: st) := by
  obtain ⟨hd, rfl⟩ := hd
  intro H locs ls hP hD hS hl
  exact lv_astore_n E.1 E.2.1 hd hi hl hn hl' (fun ls' h' => kk H locs ls' hP hD hS h')
theorem wc_iinc {i : Nat} {z : Int} {x : Int32} (v : Int32) {lv' : List (Nat × Value)} (q : Nat) (hq : lv[q]? = some (i, .int x)) (hv : x + Int32.ofInt z = v) (hn : i < nL) (hl' : (i, Value.int v) :: lv.filter (fun q => !(q.1 == i) && !(q.1 + 1 == i && q.2.category == 2)) = lv') (E : kc_ok X G B cc own nL ret d MC MS) (hd : kf_dq cc pc pc1 3 (.iinc i z)) (kk : kc_W X G B nL Q wr tl n k pc1 lv' st) : kc_W X G B nL Q wr tl n k pc lv st := by
  obtain ⟨hd, rfl⟩ := hd
  intro H locs ls hP hD hS hl
  exact lv_iinc E.1 E.2.1 hd hl hq hv hn hl' (fun ls' h' => kk H locs ls' hP hD hS h')
theorem wc_goto (E : kc_ok X G B cc own nL ret d MC MS) (hd : kf_dj cc pc pc1 tgt .goto) (kk : kc_W X G B nL Q wr tl n k tgt lv st) : kc_W X G B nL Q wr tl n k pc lv st := by
  obtain ⟨off, hd, rfl, ht⟩ := hd
  intro H locs ls hP hD hS hl
  exact lv_goto E.1 E.2.1 hd ht (kk H locs ls hP hD hS hl)
theorem wc_icmp_ge {x y : Int32} (E : kc_ok X G B cc own nL ret d MC MS) (hd : kf_dj cc pc pc1 tgt (.if_icmp .ge)) (kt : y ≤ x → kc_W X G B nL Q wr tl n k tgt lv st) (kf : ¬ y ≤ x → kc_W X G B nL Q wr tl n k pc1 lv st) : kc_W X G B nL Q wr tl n k pc lv (.int y :: .int x :: st) := by
  obtain ⟨off, hd, rfl, ht⟩ := hd
  intro H locs ls hP hD hS hl
  exact lv_icmp_ge E.1 E.2.1 hd ht (fun h => kt h H locs ls hP hD hS hl) (fun h => kf h H locs ls hP hD hS hl)
theorem wc_objInit {a ix : Nat} (hlink : Cond.methodLink own ix Lib.objectInit ∈ kf_T) (hinst : Cond.instanceMethod Lib.objectInit ∈ kf_T) (hcode : Cond.code Lib.objectInit ⟨#[0xb1]⟩ 1 none ∈ kf_T) (hr : (st.map fun v => v.category).sum ≤ 8) (h1 : 1 ≤ d) (E : kc_ok X G B cc own nL ret d MC MS) (hd : kf_dq cc pc pc1 3 (.invokespecial ix)) (kk : kc_W X G B nL Q wr tl n k pc1 lv st) : kc_W X G B nL Q wr tl n k pc lv (.ref a :: st) := by
  obtain ⟨hd, rfl⟩ := hd
  intro H locs ls hP hD hS hl
  obtain ⟨hx, hb, hml, hown, hts, hlk, hrt, hK, hxs, r1, r2, r3, r4, hB, hAO⟩ := E
  refine W.objInit hx hb hown (hts _ hlink) (hts _ hinst) (hts _ hcode) rfl (by rw [hml]; exact hl.1) rfl hd (by omega) (by show 2 * 0 + _ + 12 ≤ _; omega) ?_
  exact W.eq (g2 := F0 (kx_m X) (pc + 3) ls st) rfl (kk H locs ls hP hD hS hl)
theorem kc_vret {o : (Nat → Nat) → Option Value} {ws1 : (Nat → Nat) → va_W} (u : Nat → Nat) (ho : o u = none) (hw : tl = ws1 u) (E : kc_ok X G B cc own nL none d MC MS) (hd : kf_dq cc pc pc1 1 .return_) : kc_W X G B nL (kc_Q X G B o wr ws1 n k) wr tl n k pc lv [] := by
  intro H locs ls hP hD hS hl
  subst hw
  exact W.vret E.1 E.2.1 E.2.2.2.2.2.2.1 (fun t ht hW => ⟨⟨u, by rw [ho], by rw [ht]; exact hP, hD⟩, hS.F ht⟩) hS.2.2 hd.1 E.2.2.2.2.2.1
theorem kc_wide {n' k' : Nat} (h1 : n ≤ n') (h2 : k ≤ k') (kk : kc_W X G B nL Q wr tl n' k' pc lv st) : kc_W X G B nL Q wr tl n k pc lv st :=
  fun H locs ls hP hD hS hl => W.widen h1 h2 (kk H locs ls hP hD hS hl)
theorem kc_tl {tl' : va_W} (h : tl = tl') (kk : kc_W X G B nL Q wr tl' n k pc lv st) : kc_W X G B nL Q wr tl n k pc lv st := h ▸ kk
theorem wc_newa0 {z : Int32} {N : Nat} (harr : Cond.arrayClass .int ∈ kf_T) (hn : ¬ z < 0) (hN : z.toNatClampNeg = N) (hb8 : N ≤ 60000) (hc : n + 1 ≤ MC) (hs : k + N ≤ MS) (E : kc_ok X G B cc own nL ret d MC MS) (hd : kf_dq cc pc pc1 2 (.newarray .int)) (kk : ∀ q : Nat, kc_W X G B nL Q wr (tl ++ [(q, .inl (kf_aC G 0, N, .inl (fun _ => 0)))]) (n + 1) (k + N) pc1 lv (.ref q :: st)) : kc_W X G B nL Q wr tl n k pc lv (.int z :: st) := by
  obtain ⟨hd, rfl⟩ := hd
  intro H locs ls hP hD hS hl
  obtain ⟨hx, hb, hml, hown, hts, hlk, hrt, hK, hxs, r1, r2, r3, r4, hB, hAO⟩ := E
  refine va_newa (atype := .int) (a0 := (N, .inl (fun _ => 0))) hx hb (hts _ harr) rfl hK hP hD hS (fun q hq => Nat.le_trans hB hq) (fun cA => rfl) hn hN (by show N * 4 ≤ _; omega) (by omega) (by omega) hd (fun q cA H1 hK1 hP1 hD1 hS1 => ?_)
  have e1 := (hK1.2 5 _ rfl).2
  have e2 := (hK.2 0 _ rfl).2
  have e3 : cA = kf_aC G 0 := Option.some.inj (e1.symm.trans e2)
  subst e3
  rw [List.append_assoc] at hP1 hD1
  exact kk q H1 locs ls hP1 hD1 hS1 hl
theorem wc_newa1 {z : Int32} {N : Nat} (harr : Cond.arrayClass .long ∈ kf_T) (hn : ¬ z < 0) (hN : z.toNatClampNeg = N) (hb8 : N ≤ 60000) (hc : n + 1 ≤ MC) (hs : k + N ≤ MS) (E : kc_ok X G B cc own nL ret d MC MS) (hd : kf_dq cc pc pc1 2 (.newarray .long)) (kk : ∀ q : Nat, kc_W X G B nL Q wr (tl ++ [(q, .inl (kf_aC G 1, N, .inr (.inl (fun _ => 0))))]) (n + 1) (k + N) pc1 lv (.ref q :: st)) : kc_W X G B nL Q wr tl n k pc lv (.int z :: st) := by
  obtain ⟨hd, rfl⟩ := hd
  intro H locs ls hP hD hS hl
  obtain ⟨hx, hb, hml, hown, hts, hlk, hrt, hK, hxs, r1, r2, r3, r4, hB, hAO⟩ := E
  refine va_newa (atype := .long) (a0 := (N, .inr (.inl (fun _ => 0)))) hx hb (hts _ harr) rfl hK hP hD hS (fun q hq => Nat.le_trans hB hq) (fun cA => rfl) hn hN (by show N * 8 ≤ _; omega) (by omega) (by omega) hd (fun q cA H1 hK1 hP1 hD1 hS1 => ?_)
  have e1 := (hK1.2 5 _ rfl).2
  have e2 := (hK.2 1 _ rfl).2
  have e3 : cA = kf_aC G 1 := Option.some.inj (e1.symm.trans e2)
  subst e3
  rw [List.append_assoc] at hP1 hD1
  exact kk q H1 locs ls hP1 hD1 hS1 hl
theorem wc_newa2 {z : Int32} {N : Nat} (harr : Cond.arrayClass .byte ∈ kf_T) (hn : ¬ z < 0) (hN : z.toNatClampNeg = N) (hb8 : N ≤ 60000) (hc : n + 1 ≤ MC) (hs : k + N ≤ MS) (E : kc_ok X G B cc own nL ret d MC MS) (hd : kf_dq cc pc pc1 2 (.newarray .byte)) (kk : ∀ q : Nat, kc_W X G B nL Q wr (tl ++ [(q, .inl (kf_aC G 2, N, .inl (fun _ => 0)))]) (n + 1) (k + N) pc1 lv (.ref q :: st)) : kc_W X G B nL Q wr tl n k pc lv (.int z :: st) := by
  obtain ⟨hd, rfl⟩ := hd
  intro H locs ls hP hD hS hl
  obtain ⟨hx, hb, hml, hown, hts, hlk, hrt, hK, hxs, r1, r2, r3, r4, hB, hAO⟩ := E
  refine va_newa (atype := .byte) (a0 := (N, .inl (fun _ => 0))) hx hb (hts _ harr) rfl hK hP hD hS (fun q hq => Nat.le_trans hB hq) (fun cA => rfl) hn hN (by show N * 1 ≤ _; omega) (by omega) (by omega) hd (fun q cA H1 hK1 hP1 hD1 hS1 => ?_)
  have e1 := (hK1.2 5 _ rfl).2
  have e2 := (hK.2 2 _ rfl).2
  have e3 : cA = kf_aC G 2 := Option.some.inj (e1.symm.trans e2)
  subst e3
  rw [List.append_assoc] at hP1 hD1
  exact kk q H1 locs ls hP1 hD1 hS1 hl
theorem wc_newa3 {z : Int32} {N : Nat} (harr : Cond.arrayClass .boolean ∈ kf_T) (hn : ¬ z < 0) (hN : z.toNatClampNeg = N) (hb8 : N ≤ 60000) (hc : n + 1 ≤ MC) (hs : k + N ≤ MS) (E : kc_ok X G B cc own nL ret d MC MS) (hd : kf_dq cc pc pc1 2 (.newarray .boolean)) (kk : ∀ q : Nat, kc_W X G B nL Q wr (tl ++ [(q, .inl (kf_aC G 3, N, .inl (fun _ => 0)))]) (n + 1) (k + N) pc1 lv (.ref q :: st)) : kc_W X G B nL Q wr tl n k pc lv (.int z :: st) := by
  obtain ⟨hd, rfl⟩ := hd
  intro H locs ls hP hD hS hl
  obtain ⟨hx, hb, hml, hown, hts, hlk, hrt, hK, hxs, r1, r2, r3, r4, hB, hAO⟩ := E
  refine va_newa (atype := .boolean) (a0 := (N, .inl (fun _ => 0))) hx hb (hts _ harr) rfl hK hP hD hS (fun q hq => Nat.le_trans hB hq) (fun cA => rfl) hn hN (by show N * 1 ≤ _; omega) (by omega) (by omega) hd (fun q cA H1 hK1 hP1 hD1 hS1 => ?_)
  have e1 := (hK1.2 5 _ rfl).2
  have e2 := (hK.2 3 _ rfl).2
  have e3 : cA = kf_aC G 3 := Option.some.inj (e1.symm.trans e2)
  subst e3
  rw [List.append_assoc] at hP1 hD1
  exact kk q H1 locs ls hP1 hD1 hS1 hl
theorem wc_newq {z : Int32} {N ix : Nat} (hcl : Cond.classLink own ix RX1 ∈ kf_T) (hn : ¬ z < 0) (hN : z.toNatClampNeg = N) (hb8 : N ≤ 60000) (hc : n + 1 ≤ MC) (hs : k + N ≤ MS) (E : kc_ok X G B cc own nL ret d MC MS) (hd : kf_dq cc pc pc1 3 (.anewarray ix)) (kk : ∀ q : Nat, kc_W X G B nL Q wr (tl ++ [(q, .inl (kf_aC G 4, N, .inr (.inr (.inr (.inr (fun _ => none))))))]) (n + 1) (k + N) pc1 lv (.ref q :: st)) : kc_W X G B nL Q wr tl n k pc lv (.int z :: st) := by
  obtain ⟨hd, rfl⟩ := hd
  intro H locs ls hP hD hS hl
  obtain ⟨hx, hb, hml, hown, hts, hlk, hrt, hK, hxs, r1, r2, r3, r4, hB, hAO⟩ := E
  refine va_newq hx hb hown (hts _ hcl) hAO hK hP hD hS (fun q hq => Nat.le_trans hB hq) hn hN (by omega) (by omega) (by omega) hd (fun q cA H1 hK1 hP1 hD1 hS1 => ?_)
  obtain ⟨k1, c1, -, -, -, e1⟩ := (hK1.2 5 _ rfl).2
  obtain ⟨k2, c2, -, -, -, e2⟩ := (hK.2 4 _ rfl).2
  have e3 : cA = kf_aC G 4 := Option.some.inj (e1.symm.trans e2)
  subst e3
  rw [List.append_assoc] at hP1 hD1
  exact kk q H1 locs ls hP1 hD1 hS1 hl
def kc_NW (own : String) (ix c N : Nat) (fs : List Value) : Prop := ∃ (C : String) (T : u_T) (ty : Nat → FieldType), kf_cl[c]? = some (C, T, N) ∧ (∀ w ∈ u_ws C T N, w ∈ kf_T) ∧ (∀ k, k < N → parseFieldDescriptor (T k).2.2.1 = some (ty k)) ∧ Cond.classLink own ix C ∈ kf_T ∧ Cond.instantiable C N ∈ kf_T ∧ Cond.initialized C ∈ kf_T ∧ ∀ j, j < N → defaultValue (ty j) = vp_V fs j
theorem wc_new {ix c N : Nat} {fs : List Value} (hw : kc_NW own ix c N fs) (hc : n + 1 ≤ MC) (hs : k + N ≤ MS) (E : kc_ok X G B cc own nL ret d MC MS) (hd : kf_dq cc pc pc1 3 (.new ix)) (kk : ∀ q : Nat, kc_W X G B nL Q wr (tl ++ [(q, .inr (c, fs))]) (n + 1) (k + N) pc1 lv (.ref q :: st)) : kc_W X G B nL Q wr tl n k pc lv st := by
  obtain ⟨hd, rfl⟩ := hd
  obtain ⟨C, T, ty, w1, w2, w3, w4, w5, w6, w7⟩ := hw
  intro H locs ls hP hD hS hl
  obtain ⟨hx, hb, hml, hown, hts, hlk, hrt, hK, hxs, r1, r2, r3, r4, hB, hAO⟩ := E
  refine va_new (T := T) hx hb hts w2 ty w3 hown (hts _ w4) (hts _ w5) (hts _ w6) hK hP hD hS (fun q hq => Nat.le_trans hB hq) w1 w7 (by omega) (by omega) hd (fun q H1 hP1 hD1 hS1 => ?_)
  rw [List.append_assoc] at hP1 hD1
  exact kk q H1 locs ls hP1 hD1 hS1 hl
theorem wc_getf {ix c j i a : Nat} {fs : List Value} {v : Value} (hF : kf_FL own ix c j) (hi : tl[i]? = some (a, .inr (c, fs))) (hv : fs[j]? = some v) (E : kc_ok X G B cc own nL ret d MC MS) (hd : kf_dq cc pc pc1 3 (.getfield ix)) (kk : kc_W X G B nL Q wr tl n k pc1 lv (v :: st)) : kc_W X G B nL Q wr tl n k pc lv (.ref a :: st) := by
  obtain ⟨hd, rfl⟩ := hd
  obtain ⟨C, T, N, hc, hj, hN, h40, hin, hl⟩ := hF
  intro H locs ls hP hD hS hlv
  exact va_get (T := T) E.1 E.2.1 E.2.2.2.2.1 hin E.2.2.2.1 E.2.2.2.2.2.2.2.1 hP (wr.length + i) (kc_at hi) hc j hj (E.2.2.2.2.1 _ hl) (fun _ h => h) hv hd (kk H locs ls hP hD hS hlv)
def kc_FPF (c j : Nat) (own : String) (ty : FieldType) : Prop := ∃ (C : String) (T : u_T) (N : Nat) (ty0 : Nat → FieldType), kf_cl[c]? = some (C, T, N) ∧ (∀ k, k < N → parseFieldDescriptor (T k).2.2.1 = some (ty0 k)) ∧ (∀ a, a < N → ∀ b, b < N → a ≠ b → (T a).2.1 ≠ (T b).2.1) ∧ (T j).2.2.2 = true ∧ (T j).1 = own ∧ parseFieldDescriptor (T j).2.2.1 = some ty
theorem wc_putF {ix c j i a : Nat} {fs : List Value} {v : Value} {ty : FieldType} {tl' : va_W} (hF : kf_FL own ix c j) (hG : kc_FPF c j own ty) (hname : (kx_t X).name = "<init>") (hi : tl[i]? = some (a, .inr (c, fs))) (hn : narrow ty v = v) (hfit : fits ty v = true) (hlen : j < fs.length) (htl : tl.set i (a, .inr (c, fs.set j v)) = tl') (E : kc_ok X G B cc own nL ret d MC MS) (hd : kf_dq cc pc pc1 3 (.putfield ix)) (kk : kc_W X G B nL Q wr tl' n k pc1 lv st) : kc_W X G B nL Q wr tl n k pc lv (v :: .ref a :: st) := by
  obtain ⟨hd, rfl⟩ := hd
  obtain ⟨C, T, N, hc, hj, hN, h40, hin, hl⟩ := hF
  obtain ⟨C', T', N', ty0, hc', hty, hnm, hfin, hdecl, hpd⟩ := hG
  cases hc.symm.trans hc'
  intro H locs ls hP hD hS hlv
  refine va_putF (T := T) E.1 E.2.1 E.2.2.2.2.1 hin ty0 hty hnm E.2.2.2.1 E.2.2.2.2.2.2.2.1 hP hD hS (wr.length + i) (kc_at hi) hc j hj (E.2.2.2.2.1 _ hl) (fun _ h => h) hfin hname hdecl hpd hn hfit hlen hd (fun H1 locs1 hP1 hD1 hS1 => ?_)
  have hil : i < tl.length := (List.getElem?_eq_some_iff.mp hi).1
  rw [kc_set hil, htl] at hP1 hD1
  exact kk H1 locs1 ls hP1 hD1 hS1 hlv
theorem wc_put {ix c j i a : Nat} {fs : List Value} {v : Value} {ty : FieldType} {tl' : va_W} (hF : kf_FL own ix c j) (hG : kf_FP c j ty) (hi : tl[i]? = some (a, .inr (c, fs))) (hn : narrow ty v = v) (hfit : fits ty v = true) (hlen : j < fs.length) (htl : tl.set i (a, .inr (c, fs.set j v)) = tl') (E : kc_ok X G B cc own nL ret d MC MS) (hd : kf_dq cc pc pc1 3 (.putfield ix)) (kk : kc_W X G B nL Q wr tl' n k pc1 lv st) : kc_W X G B nL Q wr tl n k pc lv (v :: .ref a :: st) := by
  obtain ⟨hd, rfl⟩ := hd
  obtain ⟨C, T, N, hc, hj, hN, h40, hin, hl⟩ := hF
  obtain ⟨C', T', N', ty0, hc', hty, hnm, hfin, hpd⟩ := hG
  cases hc.symm.trans hc'
  intro H locs ls hP hD hS hlv
  refine va_put (T := T) E.1 E.2.1 E.2.2.2.2.1 hin ty0 hty hnm E.2.2.2.1 E.2.2.2.2.2.2.2.1 hP hD hS (wr.length + i) (kc_at hi) hc j hj (E.2.2.2.2.1 _ hl) (fun _ h => h) hfin hpd hn hfit hlen hd (fun H1 locs1 hP1 hD1 hS1 => ?_)
  have hil : i < tl.length := (List.getElem?_eq_some_iff.mp hi).1
  rw [kc_set hil, htl] at hP1 hD1
  exact kk H1 locs1 ls hP1 hD1 hS1 hlv
theorem wc_astq {i i2 a v N : Nat} {vs : List Value} {f : Nat → Option Nat} {z : Int32} {tl' : va_W} (hi : tl[i]? = some (a, .inl (kf_aC G 4, N, .inr (.inr (.inr (.inr f)))))) (hi2 : tl[i2]? = some (v, .inr (1, vs))) (hin : kf_ix z N = true) (htl : tl.set i (a, .inl (kf_aC G 4, N, .inr (.inr (.inr (.inr (va_up f z.toNatClampNeg (some v))))))) = tl') (E : kc_ok X G B cc own nL ret d MC MS) (hd : kf_dq cc pc pc1 1 .aastore) (kk : kc_W X G B nL Q wr tl' n k pc1 lv st) : kc_W X G B nL Q wr tl n k pc lv (.ref v :: .int z :: .ref a :: st) := by
  obtain ⟨hd, rfl⟩ := hd
  intro H locs ls hP hD hS hlv
  refine va_astq E.1 E.2.1 E.2.2.2.2.2.2.2.1 hP hD hS (wr.length + i) 4 (wr.length + i2) 1 (r := (RX1, TX1, 6)) (kc_at hi) rfl (kc_at hi2) rfl (kf_ix_in hin) hd (fun H1 locs1 hP1 hD1 hS1 => ?_)
  have hil : i < tl.length := (List.getElem?_eq_some_iff.mp hi).1
  rw [kc_set hil, htl] at hP1 hD1
  exact kk H1 locs1 ls hP1 hD1 hS1 hlv
theorem wc_last {i a N : Nat} {f : Nat → Int64} {z : Int32} {x : Int64} {tl' : va_W} (hi : tl[i]? = some (a, .inl (kf_aC G 1, N, .inr (.inl f)))) (hin : kf_ix z N = true) (htl : tl.set i (a, .inl (kf_aC G 1, N, .inr (.inl (vp_updL f z.toNatClampNeg x)))) = tl') (E : kc_ok X G B cc own nL ret d MC MS) (hd : kf_dq cc pc pc1 1 .lastore) (kk : kc_W X G B nL Q wr tl' n k pc1 lv st) : kc_W X G B nL Q wr tl n k pc lv (.long x :: .int z :: .ref a :: st) := by
  obtain ⟨hd, rfl⟩ := hd
  intro H locs ls hP hD hS hlv
  refine va_last E.1 E.2.1 E.2.2.2.2.2.2.2.1 hP hD hS (wr.length + i) 1 (kc_at hi) rfl (kf_ix_in hin) hd (fun H1 locs1 hP1 hD1 hS1 => ?_)
  have hil : i < tl.length := (List.getElem?_eq_some_iff.mp hi).1
  rw [kc_set hil, htl] at hP1 hD1
  exact kk H1 locs1 ls hP1 hD1 hS1 hlv
/-! calls -/
theorem kc_blind (av : List Value) (ws : va_W) : FrameBlind (va_Pc av (kc_U G B ws)) := by
  intro a U g mk h
  obtain ⟨h0, h1, h2, h3, h4, h5, h6⟩ := h
  exact ⟨h0, h1, h2, va_K.moved (u := U) (U := U.calling g mk a) (Vm.Alike.refl U.vm) h3, h4, h5, h6⟩
theorem kc_pre {s U : State} {H : Heap} {locs : List Loc} {ws : va_W} (hK : va_K (kf_D G) kf_cl (kf_tys G) s) (hxs : kc_xs G (fun q => B ≤ q) s) (hAO : va_AO RX1 s) (hB : B ≤ s.heap.size) (hP : va_P (kf_D G) kf_cl ws H) (hD : va_D (fun q => B ≤ q) ws) (hS : va_S (fun q => B ≤ q) s.heap H locs) (hU : U.heap = H) (hW : s.WarmedH U.vm) : kc_U G B ws U :=
  ⟨by rw [hU]; exact hP, hD, va_K.moved hW.alike hK, kc_xs_moved hW (fun q h1 h2 => by rw [hU]; exact hS.2.1 q h1 h2) hxs, by rw [hU]; exact Nat.le_trans hB hS.1, hAO.moved hW.alike⟩
theorem kc_behind {p : Program} {l : Launch} {e : Env} {R : Room} {s : State} {m : MethodId} {args : Array Value} {below : List Frame} {meth : Method} {c : Code} {H : Heap} {locs : List Loc} {cells slots mc ms : Nat} {ls : Array Slot} {st0 rest : List Value} {a : Array Value} {o : (Nat → Nat) → Option Value} {ws1 : (Nat → Nat) → va_W}
    (hr : va_Run p l e R s m args below meth c H locs cells slots mc ms (F0 m pc ls st0) rest (kc_Qc G B o wr ws1 a) (fun q => B ≤ q)) (hS : va_S (fun q => B ≤ q) s.heap H locs)
    (kk : ∀ (u : Nat → Nat) (H1 : Heap) (locs1 : List Loc), va_P (kf_D G) kf_cl (wr ++ ws1 u) H1 → va_D (fun q => B ≤ q) (wr ++ ws1 u) → va_S (fun q => B ≤ q) s.heap H1 locs1 → W p l e R s m args below meth c H1 locs1 (cells + mc) (slots + ms) Q (F0 m (pc + 3) ls ((o u).toList ++ rest))) : W p l e R s m args below meth c H locs cells slots Q (F0 m pc ls st0) := by
  intro T hT X
  obtain ⟨v, st₀, t, T', L, h0, X', hL, e1, e2, ⟨⟨u, hv, hP1, hD1⟩, hF⟩, hgo⟩ := hr T hT X
  cases hv
  have hS1 : va_S (fun q => B ≤ q) s.heap T'.heap (locs ++ L) := by
    refine ⟨?_, fun q hq hA => ?_, fun x hx => ?_⟩
    · rw [e1]; exact Nat.le_trans hS.1 (by rw [← h0]; exact hF.1)
    · rw [e1, hF.2 q (by rw [h0]; exact Nat.lt_of_lt_of_le hq hS.1) hA, h0]
      exact hS.2.1 q hq hA
    · rcases List.mem_append.mp hx with h | h
      · exact hS.2.2 x h
      · exact hL x h
  obtain ⟨t2, a1, b1⟩ := kk u T'.heap (locs ++ L) (by rw [e1]; exact hP1) hD1 hS1 T' rfl X'
  exact ⟨t2, hgo t2 a1, b1⟩
theorem kc_callB {y : MethodName} {cc' : ByteArray} {mL na ix d' mc ms : Nat} {ret' : Option FieldType} (hm : kf_mi y cc' mL ret' na) (hl : Cond.methodLink own ix y ∈ kf_T) (hdd : d' < d) (E : kc_ok X G B cc own nL ret d MC MS) : CallB (kx_R X) (kx_s X) (kx_a X) own ix y cc' mL ret' (Cond.code y cc' mL ret' :: kf_T) (kc_room d' mc ms) mc ms na := by
  obtain ⟨hx, hb, hml, hown, hts, hlk, hrt, hK, hxs, r1, r2, r3, r4, hB, hAO⟩ := E
  obtain ⟨m1, m2, m3, m4⟩ := hm
  refine callB_of na hts (kf_good m1) rfl rfl rfl (hts _ m2) (hts _ hl) m3 ⟨?_, ?_⟩
  · show d' + 1 ≤ _; omega
  · show 8 + (mL + 11) + 64 * d' ≤ _; omega
def kc_mn (y : MethodName) (cc : ByteArray) (mL n : Nat) : Prop := kf_mi y cc mL none n ∧ Cond.instanceMethod y ∈ kf_T ∧ y.name = "<init>"
/-- a constructor is called: its object is the last cell -/
theorem wc_callI {y : MethodName} {cc' : ByteArray} {mL na ix d' mc ms a : Nat} {As rest : List Value} {t0 ws0 : va_W} {ws1 : (Nat → Nat) → va_W} (hc : kc_Ct d' mc ms y cc' mL none G B (.ref a :: As) ws0 (fun _ => none) ws1) (hmn : kc_mn y cc' mL na) (hl : Cond.methodLink own ix y ∈ kf_T) (htl : tl = t0 ++ ws0) (hn : As.length = na) (hdd : d' < d) (hC : n + mc ≤ MC) (hM : k + ms ≤ MS) (hst : st = As.reverse ++ .ref a :: rest) (hr : (rest.map fun v => v.category).sum ≤ 8) (E : kc_ok X G B cc own nL ret d MC MS) (hd : kf_dq cc pc pc1 3 (.invokespecial ix)) (kk : ∀ u : Nat → Nat, kc_W X G B nL Q wr (t0 ++ ws1 u) (n + mc) (k + ms) pc1 lv rest) : kc_W X G B nL Q wr tl n k pc lv st := by
  subst hst
  subst htl
  obtain ⟨hm, hi, hnm⟩ := hmn
  obtain ⟨hd, rfl⟩ := hd
  intro H locs ls hP hD hS hlv
  have hB := kc_callB (mc := mc) (ms := ms) hm hl hdd E
  obtain ⟨hx, hb, hml, hown, hts, hlk, hrt, hK, hxs, r1, r2, r3, r4, hBb, hAO⟩ := E
  rw [← List.append_assoc] at hP hD
  refine kc_behind (va_runI (As := As) (rest := rest) ⟨hx, hb, hml, hown, hts⟩ (hc (kx_l X) (wr ++ t0)) ⟨hB, hnm, hts _ hi⟩ ⟨kc_blind _ _, fun U hU hW => ⟨rfl, kc_pre hK hxs hAO hBb hP hD hS hU hW⟩⟩ rfl hn hlv.1 rfl (lv_room hr) hd ⟨by omega, by omega⟩) hS (fun u H1 locs1 hP1 hD1 hS1 => ?_)
  rw [List.append_assoc] at hP1 hD1
  exact kk u H1 locs1 ls hP1 hD1 hS1 hlv
/-- a static method that makes cells is called -/
theorem wc_callM {y : MethodName} {cc' : ByteArray} {mL na ix d' mc ms : Nat} {ret' : Option FieldType} {As rest : List Value} {o : (Nat → Nat) → Option Value} {ws1 : (Nat → Nat) → va_W} (hc : kc_Ct d' mc ms y cc' mL ret' G B As [] o ws1) (hmt : kf_mt y cc' mL ret' na) (hl : Cond.methodLink own ix y ∈ kf_T) (hn : As.length = na) (hdd : d' < d) (hC : n + mc ≤ MC) (hM : k + ms ≤ MS) (hst : st = As.reverse ++ rest) (hr : (rest.map fun v => v.category).sum ≤ 8) (E : kc_ok X G B cc own nL ret d MC MS) (hd : kf_dq cc pc pc1 3 (.invokestatic ix)) (kk : ∀ u : Nat → Nat, kc_W X G B nL Q wr (tl ++ ws1 u) (n + mc) (k + ms) pc1 lv ((o u).toList ++ rest)) : kc_W X G B nL Q wr tl n k pc lv st := by
  subst hst
  obtain ⟨hm, hi⟩ := hmt
  obtain ⟨hd, rfl⟩ := hd
  intro H locs ls hP hD hS hlv
  have hB := kc_callB (mc := mc) (ms := ms) hm hl hdd E
  obtain ⟨hx, hb, hml, hown, hts, hlk, hrt, hK, hxs, r1, r2, r3, r4, hBb, hAO⟩ := E
  refine kc_behind (va_runS (As := As) (rest := rest) ⟨hx, hb, hml, hown, hts⟩ (hc (kx_l X) (wr ++ tl)) ⟨hB, hts _ hi⟩ ⟨kc_blind _ _, fun U hU hW => ⟨rfl, kc_pre hK hxs hAO hBb (by rw [List.append_nil]; exact hP) (by rw [List.append_nil]; exact hD) hS hU hW⟩⟩ rfl hn hlv.1 rfl (lv_room hr) hd ⟨by omega, by omega⟩) hS (fun u H1 locs1 hP1 hD1 hS1 => ?_)
  rw [List.append_assoc] at hP1 hD1
  exact kk u H1 locs1 ls hP1 hD1 hS1 hlv
end KC
/-! ===== calls of methods over a store, out of a constructor ===== -/
theorem kc_Dfst {A : Nat → Prop} {w w' : va_W} (h : va_D A w) (e : w.map Prod.fst = w'.map Prod.fst) : va_D A w' := by
  have key : ∀ (i : Nat) (p : Nat × va_E), w'[i]? = some p → ∃ q, w[i]? = some q ∧ q.1 = p.1 := by
    intro i p hp
    have h1 : (w'.map Prod.fst)[i]? = some p.1 := by rw [List.getElem?_map, hp]; rfl
    rw [← e, List.getElem?_map] at h1
    cases hq : w[i]? with
    | none => rw [hq] at h1; cases h1
    | some q => rw [hq] at h1; exact ⟨q, rfl, Option.some.inj h1⟩
  refine ⟨fun i j p q hp hq hpq => ?_, fun k q hk => ?_⟩
  · obtain ⟨p', a1, a2⟩ := key i p hp
    obtain ⟨q', b1, b2⟩ := key j q hq
    exact h.1 i j p' q' a1 b1 (by rw [a2, b2]; exact hpq)
  · obtain ⟨q', a1, a2⟩ := key k q hk
    rw [← a2]
    exact h.2 k q' a1
theorem kc_Wfst {G : kf_G} (σ σ' : kf_St) : (kf_W G σ).map Prod.fst = (kf_W G σ').map Prod.fst := by
  simp only [kf_W, List.map_map]
  rfl
theorem kc_inj {G : kf_G} {σ : kf_St} {A : Nat → Prop} {wr : va_W} (h : va_D A (wr ++ kf_W G σ)) : kf_inj G := by
  intro a b ha hb hab
  obtain ⟨i, hi⟩ := List.getElem?_of_mem (kf_in ha)
  obtain ⟨j, hj⟩ := List.getElem?_of_mem (kf_in hb)
  have h1 : (wr ++ kf_W G σ)[wr.length + i]? = some (kf_ad G a, kf_cell G σ a) := kc_at (by simp only [kf_W, List.getElem?_map, hi, Option.map_some])
  have h2 : (wr ++ kf_W G σ)[wr.length + j]? = some (kf_ad G b, kf_cell G σ b) := kc_at (by simp only [kf_W, List.getElem?_map, hj, Option.map_some])
  have := h.1 _ _ _ _ h1 h2 hab
  have hij : i = j := by omega
  subst hij
  rw [hi] at hj
  exact Option.some.inj hj
theorem kc_subW {D : va_G} {cl : List vw_C} {wr w : va_W} {H : Heap} (h : va_P D cl (wr ++ w) H) : va_P D cl w H := fun k q hk => h (wr.length + k) q (kc_at hk)
theorem kc_subR {D : va_G} {cl : List vw_C} {wr w : va_W} {H : Heap} (h : va_P D cl (wr ++ w) H) : va_P D cl wr H := fun k q hk => h k q (by
  rw [List.getElem?_append_left (List.getElem?_eq_some_iff.mp hk).1]; exact hk)
/-- G0 is like G, but for where its cells lie -/
def kc_like (G0 G : kf_G) : Prop := G0.1 = G.1 ∧ G0.2.1 = G.2.1 ∧ G0.2.2.1 = G.2.2.1 ∧ G0.2.2.2.2.2.1 = G.2.2.2.2.2.1 ∧ G0.2.2.2.2.2.2 = G.2.2.2.2.2.2
section KD
variable {X : kf_X} {G G0 : kf_G} {B : Nat} {cc : ByteArray} {own : String} {nL : Nat} {ret : Option FieldType} {d MC MS : Nat} {Q : State → Prop} {wr tl : va_W} {n k pc pc1 tgt : Nat} {lv : List (Nat × Value)} {st : List Value} {σ σ' : kf_St}
theorem kc_pre0 {s U : State} {H : Heap} {locs : List Loc} (hG : kc_like G0 G) (hK : va_K (kf_D G) kf_cl (kf_tys G) s) (hxs : kc_xs G (fun q => B ≤ q) s) (hP : va_P (kf_D G) kf_cl (kf_W G0 σ) H) (hA : ∀ q, kf_A G0 q → B ≤ q) (hS : va_S (fun q => B ≤ q) s.heap H locs) (hU : U.heap = H) (hW : s.WarmedH U.vm) : kf_U G0 σ U := by
  obtain ⟨g1, g2, g3, g4, g5⟩ := hG
  have e1 : kf_D G0 = kf_D G := by show (G0.1, G0.2.1) = (G.1, G.2.1); rw [g1, g2]
  have e2 : kf_tys G0 = kf_tys G := by show [(G0.2.2.1 0, _), (G0.2.2.1 1, _), (G0.2.2.1 2, _), (G0.2.2.1 3, _), (G0.2.2.1 4, _)] = _; rw [g3]
  refine ⟨by rw [hU, e1]; exact hP, by rw [e1, e2]; exact va_K.moved hW.alike hK, ?_⟩
  have h := kc_xs_narrow (kc_xs_moved hW (fun q h1 h2 => by rw [hU]; exact hS.2.1 q h1 h2) hxs) (B := kf_A G0) hA
  unfold kc_xs at h
  unfold kf_xs
  rw [g4, g5]
  exact h
theorem kc_behind0 {p : Program} {l : Launch} {e : Env} {R : Room} {s : State} {m : MethodId} {args : Array Value} {below : List Frame} {meth : Method} {c : Code} {H : Heap} {locs : List Loc} {cells slots : Nat} {ls : Array Slot} {st0 rest : List Value} {a : Array Value} {o : Option Value}
    (hD0 : kf_D G0 = kf_D G) (hA : ∀ q, kf_A G0 q → B ≤ q) (hP : va_P (kf_D G) kf_cl wr H) (hw : ∀ (i : Nat) (x : Nat × va_E), wr[i]? = some x → ¬ kf_A G0 x.1)
    (hr : va_Run p l e R s m args below meth c H locs cells slots 0 0 (F0 m pc ls st0) rest (kf_Qc G0 o σ' a) (kf_A G0)) (hS : va_S (fun q => B ≤ q) s.heap H locs)
    (kk : ∀ (H1 : Heap) (locs1 : List Loc), va_P (kf_D G) kf_cl (wr ++ kf_W G0 σ') H1 → va_S (fun q => B ≤ q) s.heap H1 locs1 → W p l e R s m args below meth c H1 locs1 cells slots Q (F0 m (pc + 3) ls (o.toList ++ rest))) : W p l e R s m args below meth c H locs cells slots Q (F0 m pc ls st0) := by
  intro T hT X
  obtain ⟨v, st₀, t, T', L, h0, X', hL, e1, e2, ⟨⟨hv, hP1⟩, hF⟩, hgo⟩ := hr T hT X
  cases hv
  rw [hD0] at hP1
  have hS1 : va_S (fun q => B ≤ q) s.heap T'.heap (locs ++ L) := by
    refine ⟨?_, fun q hq hnA => ?_, fun x hx => ?_⟩
    · rw [e1]; exact Nat.le_trans hS.1 (by rw [← h0]; exact hF.1)
    · rw [e1, hF.2 q (by rw [h0]; exact Nat.lt_of_lt_of_le hq hS.1) (fun h => hnA (hA q h)), h0]
      exact hS.2.1 q hq hnA
    · rcases List.mem_append.mp hx with h | h
      · exact hS.2.2 x h
      · exact hA _ (hL x h)
  have hPr : va_P (kf_D G) kf_cl wr T'.heap := hP.kept (fun i x hx => by
    rw [e1, hF.2 x.1 (by rw [h0]; exact (hP i x hx).lt) (hw i x hx), h0])
  obtain ⟨t2, a1, b1⟩ := kk T'.heap (locs ++ L) (hPr.app (by rw [e1]; exact hP1)) hS1 T' rfl X'
  exact ⟨t2, hgo t2 a1, b1⟩
theorem kc_callB0 {y : MethodName} {cc' : ByteArray} {mL na ix d' : Nat} {ret' : Option FieldType} (hm : kf_mi y cc' mL ret' na) (hl : Cond.methodLink own ix y ∈ kf_T) (hdd : d' < d) (E : kc_ok X G B cc own nL ret d MC MS) : CallB (kx_R X) (kx_s X) (kx_a X) own ix y cc' mL ret' (Cond.code y cc' mL ret' :: kf_T) (kf_room d') 0 0 na := by
  obtain ⟨hx, hb, hml, hown, hts, hlk, hrt, hK, hxs, r1, r2, r3, r4, hB, hAO⟩ := E
  obtain ⟨m1, m2, m3, m4⟩ := hm
  refine callB_of na hts (kf_good m1) rfl rfl rfl (hts _ m2) (hts _ hl) m3 ⟨?_, ?_⟩
  · show d' + 1 ≤ _; omega
  · show 8 + (mL + 11) + 64 * d' ≤ _; omega
/-- a method over the store of these cells -/
theorem wc_callP {y : MethodName} {cc' : ByteArray} {mL na ix d' c k0 : Nat} {ret' : Option FieldType} {As rest : List Value} {o : Option Value} (hG : kc_like G0 G) (hc : kf_inj G0 → kf_Ct d' y cc' mL ret' G0 (.ref (kf_ad G0 k0) :: As) σ o σ') (hmv : kf_mv y cc' mL ret' na c) (hl : Cond.methodLink own ix y ∈ kf_T) (hk : kf_kd G0 k0 = c + 1) (hn : As.length = na) (hdd : d' < d) (hnk : n ≤ MC ∧ k ≤ MS) (hst : st = As.reverse ++ .ref (kf_ad G0 k0) :: rest) (hr : (rest.map fun v => v.category).sum ≤ 8) (E : kc_ok X G B cc own nL ret d MC MS) (hd : kf_dq cc pc pc1 3 (.invokevirtual ix)) (kk : kc_W X G B nL Q wr (kf_W G0 σ') n k pc1 lv (o.toList ++ rest)) : kc_W X G B nL Q wr (kf_W G0 σ) n k pc lv st := by
  subst hst
  obtain ⟨hm, hi, hs, hcl, hc40⟩ := hmv
  obtain ⟨hd, rfl⟩ := hd
  intro H locs ls hP hD hS hlv
  have hB := kc_callB0 hm hl hdd E
  obtain ⟨hx, hb, hml, hown, hts, hlk, hrt, hK, hxs, r1, r2, r3, r4, hBb, hAO⟩ := E
  have hinj := kc_inj hD
  have hA : ∀ q, kf_A G0 q → B ≤ q := by
    rintro q ⟨k1, hk1, rfl⟩
    obtain ⟨i, hi'⟩ := kf_get (G := G0) σ hk1
    exact hD.2 _ _ (kc_at hi')
  have e1 : kf_D G0 = kf_D G := by show (G0.1, G0.2.1) = (G.1, G.2.1); rw [hG.1, hG.2.1]
  have hw : ∀ (i : Nat) (x : Nat × va_E), wr[i]? = some x → ¬ kf_A G0 x.1 := by
    rintro i x hx' ⟨k1, hk1, hk2⟩
    obtain ⟨j, hj⟩ := kf_get (G := G0) σ hk1
    have hil := (List.getElem?_eq_some_iff.mp hx').1
    have := hD.1 i (wr.length + j) x _ (by rw [List.getElem?_append_left hil]; exact hx') (kc_at hj) hk2
    omega
  obtain ⟨q, hq⟩ := kf_get (G := G0) σ (k := k0) (by omega)
  rw [kf_cell_obj hk hc40] at hq
  have hPs := kc_subW hP
  cases hcc : kf_cl[c]? with
  | none => rw [hcc] at hcl; cases hcl
  | some w =>
    have hcls : w.1 = y.cls := by rw [hcc] at hcl; exact Option.some.inj hcl
    refine kc_behind0 e1 hA (kc_subR hP) hw (va_runV (C := y.cls) (As := As) (rest := rest) ⟨hx, hb, hml, hown, hts⟩ (hc hinj (kx_l X)) ⟨hB, hts _ hi, hts _ hs⟩ ⟨kf_blind _ _, by rw [← hcls]; exact va_recv hK hPs hcc hq, fun U hU hW => ⟨rfl, kc_pre0 hG hK hxs hPs hA hS hU hW⟩⟩ rfl hn hlv.1 rfl (lv_room hr) hd ⟨by omega, by omega⟩) hS (fun H1 locs1 hP1 hS1 => ?_)
    exact kk H1 locs1 ls hP1 (kc_Dfst hD (by rw [List.map_append, List.map_append, kc_Wfst σ σ'])) hS1 hlv
def kc_G0 (G : kf_G) : kf_G := (G.1, G.2.1, G.2.2.1, fun _ => 0, [], G.2.2.2.2.2.1, G.2.2.2.2.2.2)
theorem kc_G0_wt (G : kf_G) : kf_wt (kc_G0 G) := ⟨fun a b h => absurd (by simp [kf_kd, kc_G0]) h, ⟨fun k c j t h => absurd h (by simp [kf_kd, kc_G0]), fun k j h => absurd h (by simp [kf_kd, kc_G0])⟩⟩
/-- a static method that needs no cells -/
theorem wc_callE {y : MethodName} {cc' : ByteArray} {mL na ix d' : Nat} {ret' : Option FieldType} {As rest : List Value} {o : Option Value} (hc : kf_Ct d' y cc' mL ret' (kc_G0 G) As σ o σ') (hmt : kf_mt y cc' mL ret' na) (hl : Cond.methodLink own ix y ∈ kf_T) (hn : As.length = na) (hdd : d' < d) (hnk : n ≤ MC ∧ k ≤ MS) (hst : st = As.reverse ++ rest) (hr : (rest.map fun v => v.category).sum ≤ 8) (E : kc_ok X G B cc own nL ret d MC MS) (hd : kf_dq cc pc pc1 3 (.invokestatic ix)) (kk : kc_W X G B nL Q wr tl n k pc1 lv (o.toList ++ rest)) : kc_W X G B nL Q wr tl n k pc lv st := by
  subst hst
  obtain ⟨hm, hi⟩ := hmt
  obtain ⟨hd, rfl⟩ := hd
  intro H locs ls hP hD hS hlv
  have hB := kc_callB0 hm hl hdd E
  obtain ⟨hx, hb, hml, hown, hts, hlk, hrt, hK, hxs, r1, r2, r3, r4, hBb, hAO⟩ := E
  have hA : ∀ q, kf_A (kc_G0 G) q → B ≤ q := by
    rintro q ⟨k1, hk1, rfl⟩
    exact absurd rfl hk1
  have hw : ∀ (i : Nat) (x : Nat × va_E), (wr ++ tl)[i]? = some x → ¬ kf_A (kc_G0 G) x.1 := by
    rintro i x hx' ⟨k1, hk1, hk2⟩
    exact absurd rfl hk1
  have hG : kc_like (kc_G0 G) G := ⟨rfl, rfl, rfl, rfl, rfl⟩
  refine kc_behind0 (G0 := kc_G0 G) rfl hA hP hw (va_runS (As := As) (rest := rest) ⟨hx, hb, hml, hown, hts⟩ (hc (kx_l X)) ⟨hB, hts _ hi⟩ ⟨kf_blind _ _, fun U hU hW => ⟨rfl, kc_pre0 hG hK hxs (fun k q hk => by cases hk) hA hS hU hW⟩⟩ rfl hn hlv.1 rfl (lv_room hr) hd ⟨by omega, by omega⟩) hS (fun H1 locs1 hP1 hS1 => ?_)
  exact kk H1 locs1 ls (kc_subR hP1) hD hS1 hlv
theorem wck_getR {ix c j k0 : Nat} (hG : kc_like G0 G) (hF : kf_FL own ix c j) (hk : kf_kd G0 k0 = c + 1) (ht : (kf_ft c)[j]? = some 2) (E : kc_ok X G B cc own nL ret d MC MS) (hd : kf_dq cc pc pc1 3 (.getfield ix)) (kk : kc_W X G B nL Q wr (kf_W G0 σ) n k pc1 lv (.ref (kf_ad G0 (kf_rf k0 j)) :: st)) : kc_W X G B nL Q wr (kf_W G0 σ) n k pc lv (.ref (kf_ad G0 k0) :: st) := by
  obtain ⟨i, hi⟩ := kf_get (G := G0) σ (k := k0) (by omega)
  obtain ⟨-, -, -, -, -, -, h40, -⟩ := id hF
  rw [kf_cell_obj hk h40] at hi
  exact wc_getf hF hi (v := .ref (kf_ad G0 (kf_rf k0 j))) (by rw [kf_fs_get, ht, Nat.zero_add]; rfl) E hd kk
theorem wck_last {k0 : Nat} {z : Int32} {x : Int64} (hG : kc_like G0 G) (hk : kf_kd G0 k0 = 51) (hin : kf_ix z (kf_ln k0) = true) (E : kc_ok X G B cc own nL ret d MC MS) (hd : kf_dq cc pc pc1 1 .lastore) (kk : kc_W X G B nL Q wr (kf_W G0 (kf_wl σ k0 z.toNatClampNeg x)) n k pc1 lv st) : kc_W X G B nL Q wr (kf_W G0 σ) n k pc lv (.long x :: .int z :: .ref (kf_ad G0 k0) :: st) := by
  intro H locs ls hP hD hS hlv
  have hinj := kc_inj hD
  obtain ⟨i, hi⟩ := kf_get (G := G0) σ (k := k0) (by omega)
  have hi0 := hi
  rw [kf_cell_l hk] at hi
  have ha : kf_aC G0 1 = kf_aC G 1 := by show G0.2.2.1 1 = G.2.2.1 1; rw [hG.2.2.1]
  rw [ha] at hi
  refine wc_last (tl' := kf_W G0 (kf_wl σ k0 z.toNatClampNeg x)) hi hin ?_ E hd kk H locs ls hP hD hS hlv
  refine kf_set hinj (by omega) hi0 (by rw [kf_cell_l hk, kf_wl_s, ha]) (fun a h => kf_cell_other rfl (kf_wl_o h))
end KD
/-! the text's signs -/
theorem kf_c_n (x : Int32) : narrow .char (.int (x.toUInt32 % 65536).toInt32) = .int (x.toUInt32 % 65536).toInt32 := pk_nc x
section KE
variable {X : kf_X} {G : kf_G} {cc : ByteArray} {own : String} {nL : Nat} {ret : Option FieldType} {d : Nat} {Q : State → Prop} {pc pc1 tgt : Nat} {lv : List (Nat × Value)} {st : List Value} {σ : kf_St}
theorem wa_gfmt {n : Nat} (hl : Cond.fieldLink own n "jdk/internal/util/Preconditions" "SIOOBE_FORMATTER" "Ljava/util/function/BiFunction;" ∈ kf_T) (E : kf_ok X G cc own nL ret d) (hd : kf_dq cc pc pc1 3 (.getstatic n)) (k : ∀ z : Value, (z = .null ∨ ∃ t, z = .ref t) → kf_WA X G nL Q pc1 lv (z :: st) σ) : kf_WA X G nL Q pc lv st σ := by
  obtain ⟨hd, rfl⟩ := hd
  intro H locs ls hP hS hlv
  rcases E.2.2.2.2.2.2.2.2.1.2.2.2.2.2 with hz | ⟨t, hz⟩
  · exact va_gets E.1 E.2.1 hz hS E.2.2.2.1 (E.2.2.2.2.1 _ hl) (fun _ h => h) hd (k .null (Or.inl rfl) H locs ls hP hS hlv)
  · exact va_gets E.1 E.2.1 hz hS E.2.2.2.1 (E.2.2.2.2.1 _ hl) (fun _ h => h) hd (k (.ref t) (Or.inr ⟨t, rfl⟩) H locs ls hP hS hlv)
end KE
