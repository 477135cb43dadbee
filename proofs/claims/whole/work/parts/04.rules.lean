/-! ===== the judgement ===== -/
abbrev kf_X : Type := Program × Launch × Env × Room × State × MethodId × Array Value × List Frame × Method × Code × Nat × Nat
abbrev kx_p (X : kf_X) : Program := X.1
abbrev kx_l (X : kf_X) : Launch := X.2.1
abbrev kx_e (X : kf_X) : Env := X.2.2.1
abbrev kx_R (X : kf_X) : Room := X.2.2.2.1
abbrev kx_s (X : kf_X) : State := X.2.2.2.2.1
abbrev kx_m (X : kf_X) : MethodId := X.2.2.2.2.2.1
abbrev kx_a (X : kf_X) : Array Value := X.2.2.2.2.2.2.1
abbrev kx_b (X : kf_X) : List Frame := X.2.2.2.2.2.2.2.1
abbrev kx_t (X : kf_X) : Method := X.2.2.2.2.2.2.2.2.1
abbrev kx_c (X : kf_X) : Code := X.2.2.2.2.2.2.2.2.2.1
abbrev kx_n (X : kf_X) : Nat := X.2.2.2.2.2.2.2.2.2.2.1
abbrev kx_k (X : kf_X) : Nat := X.2.2.2.2.2.2.2.2.2.2.2
def kf_T : List Cond := lw_tbl.filter goodWord
def kf_room (d : Nat) : Room := { frames := d, cells := 0, slots := 0, locals := 64 * d }
def kf_xs (G : kf_G) (U : State) : Prop := va_Nw (.fieldLinkNest "KnockerFaces$Reader" 58 "KnockerFaces$Tape" "kinds" "[I" "KnockerFaces") U ∧ vk_R "KnockerFaces$Tape" 33 kf_words (G.2.2.2.2.2.1 0) U ∧ vk_R "KnockerFaces$Tape" 90 kf_signs (G.2.2.2.2.2.1 1) U ∧ vk_S 2 kf_len kf_byt G.2.2.2.2.2.1 G.2.2.2.2.2.2 (kf_A G) U U.heap ∧ va_Z "java/lang/String" "COMPACT_STRINGS" "Z" (.int 1) (kf_A G) U U.heap ∧ va_Zq "jdk/internal/util/Preconditions" "SIOOBE_FORMATTER" "Ljava/util/function/BiFunction;" (kf_A G) U U.heap
theorem kf_xs_moved {G : kf_G} {s U : State} (hW : s.WarmedH U.vm) (hq : ∀ q : Nat, q < s.heap.size → ¬ kf_A G q → U.heap[q]? = s.heap[q]?) (h : kf_xs G s) : kf_xs G U := by
  obtain ⟨h1, h2, h3, h4, h5, h6⟩ := h
  exact ⟨h1.warmF hW, h2.warm hW, h3.warm hW, (h4.moved hW.alike).kept hq, (h5.moved hW.alike).kept hq, (h6.moved hW.alike).kept hq⟩
/-- what a frame stands on -/
def kf_ok (X : kf_X) (G : kf_G) (cc : ByteArray) (own : String) (nL : Nat) (ret : Option FieldType) (d : Nat) : Prop :=
  (kx_p X).tables.exec = Jvm.exec ∧ (kx_c X).code = cc ∧ (kx_c X).maxLocals = nL ∧ (kx_s X).vm.findClass own = some (kx_m X).cls ∧ (∀ w ∈ kf_T, w.before (kx_a X) (kx_s X) = true) ∧ (kx_t X).locks = false ∧ (kx_t X).sig.returnType = ret ∧
  va_K (kf_D G) kf_cl (kf_tys G) (kx_s X) ∧ kf_xs G (kx_s X) ∧ d ≤ (kx_R X).frames ∧ 64 * d ≤ (kx_R X).locals ∧ kx_n X ≤ (kx_R X).cells ∧ kx_k X ≤ (kx_R X).slots ∧ kf_inj G
def kf_WA (X : kf_X) (G : kf_G) (nL : Nat) (Q : State → Prop) (pc : Nat) (lv : List (Nat × Value)) (st : List Value) (σ : kf_St) : Prop :=
  ∀ (H : Heap) (locs : List Loc) (ls : Array Slot), va_P (kf_D G) kf_cl (kf_W G σ) H → va_S (kf_A G) (kx_s X).heap H locs → lv_has ls nL lv → W (kx_p X) (kx_l X) (kx_e X) (kx_R X) (kx_s X) (kx_m X) (kx_a X) (kx_b X) (kx_t X) (kx_c X) H locs (kx_n X) (kx_k X) Q (F0 (kx_m X) pc ls st)
/-- an instruction; a jump -/
def kf_dq (cc : ByteArray) (pc pc1 n : Nat) (i : Instr) : Prop := decode cc pc = .ok (i, n) ∧ pc + n = pc1
def kf_dj (cc : ByteArray) (pc pc1 tgt : Nat) (f : Int → Instr) : Prop := ∃ off : Int, decode cc pc = .ok (f off, 3) ∧ pc + 3 = pc1 ∧ (pc : Int) + off = (tgt : Int)
/-- a method's end, a method's contract -/
def kf_Qc (G : kf_G) (o : Option Value) (σ' : kf_St) : Array Value → State → Outcome → State → Prop := fun _ st oc t => (oc = .returned o ∧ va_P (kf_D G) kf_cl (kf_W G σ') t.heap) ∧ va_F (kf_A G) st t
def kf_U (G : kf_G) (σ : kf_St) (U : State) : Prop := va_P (kf_D G) kf_cl (kf_W G σ) U.heap ∧ va_K (kf_D G) kf_cl (kf_tys G) U ∧ kf_xs G U
def kf_Ct (d : Nat) (y : MethodName) (cc : ByteArray) (mL : Nat) (ret : Option FieldType) (G : kf_G) (av : List Value) (σ : kf_St) (o : Option Value) (σ' : kf_St) : Prop :=
  ∀ l : Launch, Met l y (Cond.code y cc mL ret :: kf_T) (kf_room d) (va_Pc av (kf_U G σ)) (kf_Qc G o σ') 0 0 (kf_A G)
def kf_Q (X : kf_X) (G : kf_G) (o : Option Value) (σ' : kf_St) : State → Prop := MQ (kx_b X) (kf_Qc G o σ') (kx_a X) (kx_s X) (kx_n X) (kx_k X) (kf_A G)
theorem kf_lays {w : Cond} (i : Nat) (h : lw_tbl[i]? = some w) (hg : goodWord w = true) : w ∈ kf_T := List.mem_filter.mpr ⟨List.mem_of_getElem? h, hg⟩
theorem kf_ly0 {w : Cond} (i : Nat) (h : (k2_sels lw_privs)[i]? = some w) (hg : goodWord w = true) : w ∈ kf_T := List.mem_filter.mpr ⟨List.mem_append_left _ (List.mem_of_getElem? h), hg⟩
theorem kf_ly1 {w : Cond} (i : Nat) (h : tables_1_1[i]? = some w) (hg : goodWord w = true) : w ∈ kf_T := List.mem_filter.mpr ⟨List.mem_append_right _ (List.mem_append_left _ (List.mem_of_getElem? h)), hg⟩
theorem kf_ly2 {w : Cond} (i : Nat) (h : tables_1_2[i]? = some w) (hg : goodWord w = true) : w ∈ kf_T := List.mem_filter.mpr ⟨List.mem_append_right _ (List.mem_append_right _ (List.mem_append_left _ (List.mem_of_getElem? h))), hg⟩
theorem kf_ly3 {w : Cond} (i : Nat) (h : tables_1_3[i]? = some w) (hg : goodWord w = true) : w ∈ kf_T := List.mem_filter.mpr ⟨List.mem_append_right _ (List.mem_append_right _ (List.mem_append_right _ (List.mem_append_left _ (List.mem_of_getElem? h)))), hg⟩
theorem kf_ly4 {w : Cond} (i : Nat) (h : tables_1_4[i]? = some w) (hg : goodWord w = true) : w ∈ kf_T := List.mem_filter.mpr ⟨List.mem_append_right _ (List.mem_append_right _ (List.mem_append_right _ (List.mem_append_right _ (List.mem_append_left _ (List.mem_of_getElem? h))))), hg⟩
theorem kf_ly5 {w : Cond} (i : Nat) (h : tables_1_5[i]? = some w) (hg : goodWord w = true) : w ∈ kf_T := List.mem_filter.mpr ⟨List.mem_append_right _ (List.mem_append_right _ (List.mem_append_right _ (List.mem_append_right _ (List.mem_append_right _ (List.mem_append_left _ (List.mem_of_getElem? h)))))), hg⟩
theorem kf_ly6 {w : Cond} (i : Nat) (h : tables_1_6[i]? = some w) (hg : goodWord w = true) : w ∈ kf_T := List.mem_filter.mpr ⟨List.mem_append_right _ (List.mem_append_right _ (List.mem_append_right _ (List.mem_append_right _ (List.mem_append_right _ (List.mem_append_right _ (List.mem_append_left _ (List.mem_of_getElem? h))))))), hg⟩
theorem kf_ly7 {w : Cond} (i : Nat) (h : tables_1_7[i]? = some w) (hg : goodWord w = true) : w ∈ kf_T := List.mem_filter.mpr ⟨List.mem_append_right _ (List.mem_append_right _ (List.mem_append_right _ (List.mem_append_right _ (List.mem_append_right _ (List.mem_append_right _ (List.mem_append_right _ (List.mem_append_left _ (List.mem_of_getElem? h)))))))), hg⟩
theorem kf_ly8 {w : Cond} (i : Nat) (h : tables_1_8[i]? = some w) (hg : goodWord w = true) : w ∈ kf_T := List.mem_filter.mpr ⟨List.mem_append_right _ (List.mem_append_right _ (List.mem_append_right _ (List.mem_append_right _ (List.mem_append_right _ (List.mem_append_right _ (List.mem_append_right _ (List.mem_append_right _ (List.mem_of_getElem? h)))))))), hg⟩
theorem kf_wsin {ws : List Cond} (ps : List Nat) (hp : ws = ps.filterMap (fun i => lw_tbl[i]?)) (h : ws.all goodWord = true) : ∀ w ∈ ws, w ∈ kf_T := by
  intro w hw
  have h1 := List.all_eq_true.mp h w hw
  rw [hp] at hw
  obtain ⟨i, -, hi⟩ := List.mem_filterMap.mp hw
  exact List.mem_filter.mpr ⟨List.mem_of_getElem? hi, h1⟩
theorem kf_good {w : Cond} (h : w ∈ kf_T) : GoodIn kf_T (w :: kf_T) := by
  intro v hv
  rcases List.mem_cons.mp hv with e | e
  · subst e; exact ⟨h, good_of_word (List.mem_filter.mp h).2⟩
  · exact ⟨e, good_of_word (List.mem_filter.mp e).2⟩
section KW
variable {X : kf_X} {G : kf_G} {cc : ByteArray} {own : String} {nL : Nat} {ret : Option FieldType} {d : Nat} {Q : State → Prop} {pc pc1 tgt : Nat} {lv : List (Nat × Value)} {st : List Value} {σ : kf_St}
theorem kf_Ct.of {y : MethodName} {mL : Nat} {av : List Value} {o : Option Value} {σ' : kf_St} (hinj : kf_inj G) (hy : plainName y.cls = true) (hlv : lv_args 0 av = lv) (hlen : (lg_sl av).length ≤ mL)
    (body : ∀ X : kf_X, kf_ok X G cc y.cls mL ret d → kf_WA X G mL (kf_Q X G o σ') 0 lv [] σ) : kf_Ct d y cc mL ret G av σ o σ' := by
  intro l
  refine Met.ofW (cc := cc) (maxL := mL) (ret := ret) hy rfl ?_
  intro p e s m args below meth c s₁ B hml hv
  obtain ⟨rfl, hP, hK, hX⟩ := hv
  have hts := atoms_spec (ws := Cond.code y cc mL ret :: kf_T) B.pre
  have hE : kf_ok (p, l, e, (headSpec (Cond.code y cc mL ret :: kf_T) (kf_room d)).room, s, m, av.toArray, below, meth, c, 0, 0) G cc y.cls mL ret d :=
    ⟨B.exec, B.bytes, hml, findClass_of_methodNamed B.named, fun w h => hts w (List.mem_cons_of_mem _ h), B.notSynchronized, B.returns, hK, hX, Nat.le_refl _, Nat.le_refl _, Nat.le_refl _, Nat.le_refl _, hinj⟩
  have hl := lv_entry av (n := mL) hlen
  rw [lg_entry_eq]
  rw [hlv] at hl
  exact body _ hE s.heap [] _ hP va_S.rf hl
theorem wa_sub {lv' : List (Nat × Value)} (ks : List Nat) (h : lv_pick lv ks = lv') (k : kf_WA X G nL Q pc lv' st σ) : kf_WA X G nL Q pc lv st σ :=
  fun H locs ls hP hS hl => k H locs ls hP hS (lv_sub hl ks h)
theorem wa_iconst {n : Int} (v : Int32) (hv : Int32.ofInt n = v) (E : kf_ok X G cc own nL ret d) (hd : kf_dq cc pc pc1 1 (.iconst n)) (k : kf_WA X G nL Q pc1 lv (.int v :: st) σ) : kf_WA X G nL Q pc lv (st) σ := by
  obtain ⟨hd, rfl⟩ := hd
  intro H locs ls hP hS hl
  exact lv_iconst E.1 E.2.1 hd hv (k H locs ls hP hS hl)
theorem wa_bipush {n : Int} (v : Int32) (hv : (Int8.ofInt n).toInt32 = v) (E : kf_ok X G cc own nL ret d) (hd : kf_dq cc pc pc1 2 (.bipush n)) (k : kf_WA X G nL Q pc1 lv (.int v :: st) σ) : kf_WA X G nL Q pc lv (st) σ := by
  obtain ⟨hd, rfl⟩ := hd
  intro H locs ls hP hS hl
  exact lv_bipush E.1 E.2.1 hd hv (k H locs ls hP hS hl)
theorem wa_sipush {n : Int} (v : Int32) (hv : (Int16.ofInt n).toInt32 = v) (E : kf_ok X G cc own nL ret d) (hd : kf_dq cc pc pc1 3 (.sipush n)) (k : kf_WA X G nL Q pc1 lv (.int v :: st) σ) : kf_WA X G nL Q pc lv (st) σ := by
  obtain ⟨hd, rfl⟩ := hd
  intro H locs ls hP hS hl
  exact lv_sipush E.1 E.2.1 hd hv (k H locs ls hP hS hl)
theorem wa_lconst {n : Fin 2} (v : Int64) (hv : Int64.ofNat (n : Nat) = v) (E : kf_ok X G cc own nL ret d) (hd : kf_dq cc pc pc1 1 (.lconst n)) (k : kf_WA X G nL Q pc1 lv (.long v :: st) σ) : kf_WA X G nL Q pc lv (st) σ := by
  obtain ⟨hd, rfl⟩ := hd
  intro H locs ls hP hS hl
  exact lv_lconst E.1 E.2.1 hd hv (k H locs ls hP hS hl)
theorem wa_iload_n {n : Fin 4} {x : Int32} (q : Nat) (hq : lv[q]? = some ((n : Nat), .int x)) (E : kf_ok X G cc own nL ret d) (hd : kf_dq cc pc pc1 1 (.iload_n n)) (k : kf_WA X G nL Q pc1 lv (.int x :: st) σ) : kf_WA X G nL Q pc lv (st) σ := by
  obtain ⟨hd, rfl⟩ := hd
  intro H locs ls hP hS hl
  exact lv_iload_n E.1 E.2.1 hd rfl (lv_at hl q hq) (k H locs ls hP hS hl)
theorem wa_iload {n : Nat} {x : Int32} (q : Nat) (hq : lv[q]? = some (n, .int x)) (E : kf_ok X G cc own nL ret d) (hd : kf_dq cc pc pc1 2 (.iload n)) (k : kf_WA X G nL Q pc1 lv (.int x :: st) σ) : kf_WA X G nL Q pc lv (st) σ := by
  obtain ⟨hd, rfl⟩ := hd
  intro H locs ls hP hS hl
  exact lv_iload E.1 E.2.1 hd (lv_at hl q hq) (k H locs ls hP hS hl)
theorem wa_lload_n {n : Fin 4} {x : Int64} (q : Nat) (hq : lv[q]? = some ((n : Nat), .long x)) (E : kf_ok X G cc own nL ret d) (hd : kf_dq cc pc pc1 1 (.lload_n n)) (k : kf_WA X G nL Q pc1 lv (.long x :: st) σ) : kf_WA X G nL Q pc lv (st) σ := by
  obtain ⟨hd, rfl⟩ := hd
  intro H locs ls hP hS hl
  exact lv_lload_n E.1 E.2.1 hd rfl (lv_at hl q hq) (k H locs ls hP hS hl)
theorem wa_lload {n : Nat} {x : Int64} (q : Nat) (hq : lv[q]? = some (n, .long x)) (E : kf_ok X G cc own nL ret d) (hd : kf_dq cc pc pc1 2 (.lload n)) (k : kf_WA X G nL Q pc1 lv (.long x :: st) σ) : kf_WA X G nL Q pc lv (st) σ := by
  obtain ⟨hd, rfl⟩ := hd
  intro H locs ls hP hS hl
  exact lv_lload E.1 E.2.1 hd (lv_at hl q hq) (k H locs ls hP hS hl)
theorem wa_aload_n {n : Fin 4} {x : Nat} (q : Nat) (hq : lv[q]? = some ((n : Nat), .ref x)) (E : kf_ok X G cc own nL ret d) (hd : kf_dq cc pc pc1 1 (.aload_n n)) (k : kf_WA X G nL Q pc1 lv (.ref x :: st) σ) : kf_WA X G nL Q pc lv (st) σ := by
  obtain ⟨hd, rfl⟩ := hd
  intro H locs ls hP hS hl
  exact lv_aload_n E.1 E.2.1 hd rfl (lv_at hl q hq) (k H locs ls hP hS hl)
theorem wa_aload {n : Nat} {x : Nat} (q : Nat) (hq : lv[q]? = some (n, .ref x)) (E : kf_ok X G cc own nL ret d) (hd : kf_dq cc pc pc1 2 (.aload n)) (k : kf_WA X G nL Q pc1 lv (.ref x :: st) σ) : kf_WA X G nL Q pc lv (st) σ := by
  obtain ⟨hd, rfl⟩ := hd
  intro H locs ls hP hS hl
  exact lv_aload E.1 E.2.1 hd (lv_at hl q hq) (k H locs ls hP hS hl)
theorem wa_istore_n {n : Fin 4} {i : Nat} {x : Int32} {lv' : List (Nat × Value)} (hi : (n : Nat) = i) (hn : i < nL) (hl' : (i, Value.int x) :: lv.filter (fun q => !(q.1 == i) && !(q.1 + 1 == i && q.2.category == 2)) = lv') (E : kf_ok X G cc own nL ret d) (hd : kf_dq cc pc pc1 1 (.istore_n n)) (k : kf_WA X G nL Q pc1 lv' st σ) : kf_WA X G nL Q pc lv (.int x :: st) σ := by
  obtain ⟨hd, rfl⟩ := hd
  intro H locs ls hP hS hl
  exact lv_istore_n E.1 E.2.1 hd hi hl hn hl' (fun ls' h' => k H locs ls' hP hS h')
theorem wa_istore {i : Nat} {x : Int32} {lv' : List (Nat × Value)} (hn : i < nL) (hl' : (i, Value.int x) :: lv.filter (fun q => !(q.1 == i) && !(q.1 + 1 == i && q.2.category == 2)) = lv') (E : kf_ok X G cc own nL ret d) (hd : kf_dq cc pc pc1 2 (.istore i)) (k : kf_WA X G nL Q pc1 lv' st σ) : kf_WA X G nL Q pc lv (.int x :: st) σ := by
  obtain ⟨hd, rfl⟩ := hd
  intro H locs ls hP hS hl
  exact lv_istore E.1 E.2.1 hd hl hn hl' (fun ls' h' => k H locs ls' hP hS h')
theorem wa_lstore_n {n : Fin 4} {i : Nat} {x : Int64} {lv' : List (Nat × Value)} (hi : (n : Nat) = i) (hn : i + 1 < nL) (hl' : (i, Value.long x) :: lv.filter (fun q => !(q.1 == i) && (!(q.1 == i + 1) && !(q.1 + 1 == i && q.2.category == 2))) = lv') (E : kf_ok X G cc own nL ret d) (hd : kf_dq cc pc pc1 1 (.lstore_n n)) (k : kf_WA X G nL Q pc1 lv' st σ) : kf_WA X G nL Q pc lv (.long x :: st) σ := by
  obtain ⟨hd, rfl⟩ := hd
  intro H locs ls hP hS hl
  exact lv_lstore_n E.1 E.2.1 hd hi hl hn hl' (fun ls' h' => k H locs ls' hP hS h')
theorem wa_lstore {i : Nat} {x : Int64} {lv' : List (Nat × Value)} (hn : i + 1 < nL) (hl' : (i, Value.long x) :: lv.filter (fun q => !(q.1 == i) && (!(q.1 == i + 1) && !(q.1 + 1 == i && q.2.category == 2))) = lv') (E : kf_ok X G cc own nL ret d) (hd : kf_dq cc pc pc1 2 (.lstore i)) (k : kf_WA X G nL Q pc1 lv' st σ) : kf_WA X G nL Q pc lv (.long x :: st) σ := by
  obtain ⟨hd, rfl⟩ := hd
  intro H locs ls hP hS hl
  exact lv_lstore E.1 E.2.1 hd hl hn hl' (fun ls' h' => k H locs ls' hP hS h')
theorem wa_astore_n {n : Fin 4} {i : Nat} {x : Nat} {lv' : List (Nat × Value)} (hi : (n : Nat) = i) (hn : i < nL) (hl' : (i, Value.ref x) :: lv.filter (fun q => !(q.1 == i) && !(q.1 + 1 == i && q.2.category == 2)) = lv') (E : kf_ok X G cc own nL ret d) (hd : kf_dq cc pc pc1 1 (.astore_n n)) (k : kf_WA X G nL Q pc1 lv' st σ) : kf_WA X G nL Q pc lv (.ref x :: st) σ := by
  obtain ⟨hd, rfl⟩ := hd
  intro H locs ls hP hS hl
  exact lv_astore_n E.1 E.2.1 hd hi hl hn hl' (fun ls' h' => k H locs ls' hP hS h')
theorem wa_astore {i : Nat} {x : Nat} {lv' : List (Nat × Value)} (hn : i < nL) (hl' : (i, Value.ref x) :: lv.filter (fun q => !(q.1 == i) && !(q.1 + 1 == i && q.2.category == 2)) = lv') (E : kf_ok X G cc own nL ret d) (hd : kf_dq cc pc pc1 2 (.astore i)) (k : kf_WA X G nL Q pc1 lv' st σ) : kf_WA X G nL Q pc lv (.ref x :: st) σ := by
  obtain ⟨hd, rfl⟩ := hd
  intro H locs ls hP hS hl
  exact lv_astore E.1 E.2.1 hd hl hn hl' (fun ls' h' => k H locs ls' hP hS h')
theorem wa_iinc {i : Nat} {n : Int} {x : Int32} (v : Int32) {lv' : List (Nat × Value)} (q : Nat) (hq : lv[q]? = some (i, .int x)) (hv : x + Int32.ofInt n = v) (hn : i < nL) (hl' : (i, Value.int v) :: lv.filter (fun q => !(q.1 == i) && !(q.1 + 1 == i && q.2.category == 2)) = lv') (E : kf_ok X G cc own nL ret d) (hd : kf_dq cc pc pc1 3 (.iinc i n)) (k : kf_WA X G nL Q pc1 lv' st σ) : kf_WA X G nL Q pc lv st σ := by
  obtain ⟨hd, rfl⟩ := hd
  intro H locs ls hP hS hl
  exact lv_iinc E.1 E.2.1 hd hl hq hv hn hl' (fun ls' h' => k H locs ls' hP hS h')
theorem wa_iadd {x y : Int32} (E : kf_ok X G cc own nL ret d) (hd : kf_dq cc pc pc1 1 (.iadd)) (k : kf_WA X G nL Q pc1 lv (.int (x + y) :: st) σ) : kf_WA X G nL Q pc lv (.int y :: .int x :: st) σ := by
  obtain ⟨hd, rfl⟩ := hd
  intro H locs ls hP hS hl
  exact lv_iadd E.1 E.2.1 hd (k H locs ls hP hS hl)
theorem wa_isub {x y : Int32} (E : kf_ok X G cc own nL ret d) (hd : kf_dq cc pc pc1 1 (.isub)) (k : kf_WA X G nL Q pc1 lv (.int (x - y) :: st) σ) : kf_WA X G nL Q pc lv (.int y :: .int x :: st) σ := by
  obtain ⟨hd, rfl⟩ := hd
  intro H locs ls hP hS hl
  exact lv_isub E.1 E.2.1 hd (k H locs ls hP hS hl)
theorem wa_imul {x y : Int32} (E : kf_ok X G cc own nL ret d) (hd : kf_dq cc pc pc1 1 (.imul)) (k : kf_WA X G nL Q pc1 lv (.int (x * y) :: st) σ) : kf_WA X G nL Q pc lv (.int y :: .int x :: st) σ := by
  obtain ⟨hd, rfl⟩ := hd
  intro H locs ls hP hS hl
  exact lv_imul E.1 E.2.1 hd (k H locs ls hP hS hl)
theorem wa_iand {x y : Int32} (E : kf_ok X G cc own nL ret d) (hd : kf_dq cc pc pc1 1 (.iand)) (k : kf_WA X G nL Q pc1 lv (.int (x &&& y) :: st) σ) : kf_WA X G nL Q pc lv (.int y :: .int x :: st) σ := by
  obtain ⟨hd, rfl⟩ := hd
  intro H locs ls hP hS hl
  exact lv_iand E.1 E.2.1 hd (k H locs ls hP hS hl)
theorem wa_ior {x y : Int32} (E : kf_ok X G cc own nL ret d) (hd : kf_dq cc pc pc1 1 (.ior)) (k : kf_WA X G nL Q pc1 lv (.int (x ||| y) :: st) σ) : kf_WA X G nL Q pc lv (.int y :: .int x :: st) σ := by
  obtain ⟨hd, rfl⟩ := hd
  intro H locs ls hP hS hl
  exact lv_ior E.1 E.2.1 hd (k H locs ls hP hS hl)
theorem wa_ixor {x y : Int32} (E : kf_ok X G cc own nL ret d) (hd : kf_dq cc pc pc1 1 (.ixor)) (k : kf_WA X G nL Q pc1 lv (.int (x ^^^ y) :: st) σ) : kf_WA X G nL Q pc lv (.int y :: .int x :: st) σ := by
  obtain ⟨hd, rfl⟩ := hd
  intro H locs ls hP hS hl
  exact lv_ixor E.1 E.2.1 hd (k H locs ls hP hS hl)
theorem wa_ishl {x y : Int32} (E : kf_ok X G cc own nL ret d) (hd : kf_dq cc pc pc1 1 (.ishl)) (k : kf_WA X G nL Q pc1 lv (.int (x <<< (y &&& 31)) :: st) σ) : kf_WA X G nL Q pc lv (.int y :: .int x :: st) σ := by
  obtain ⟨hd, rfl⟩ := hd
  intro H locs ls hP hS hl
  exact lv_ishl E.1 E.2.1 hd (k H locs ls hP hS hl)
theorem wa_ishr {x y : Int32} (E : kf_ok X G cc own nL ret d) (hd : kf_dq cc pc pc1 1 (.ishr)) (k : kf_WA X G nL Q pc1 lv (.int (x >>> (y &&& 31)) :: st) σ) : kf_WA X G nL Q pc lv (.int y :: .int x :: st) σ := by
  obtain ⟨hd, rfl⟩ := hd
  intro H locs ls hP hS hl
  exact lv_ishr E.1 E.2.1 hd (k H locs ls hP hS hl)
theorem wa_iushr {x y : Int32} (E : kf_ok X G cc own nL ret d) (hd : kf_dq cc pc pc1 1 (.iushr)) (k : kf_WA X G nL Q pc1 lv (.int ((x.toUInt32 >>> (y.toUInt32 &&& Int32.toUInt32 31)).toInt32) :: st) σ) : kf_WA X G nL Q pc lv (.int y :: .int x :: st) σ := by
  obtain ⟨hd, rfl⟩ := hd
  intro H locs ls hP hS hl
  exact lv_iushr E.1 E.2.1 hd rfl (k H locs ls hP hS hl)
theorem wa_idiv {x y : Int32} (hne : ¬ y = 0) (E : kf_ok X G cc own nL ret d) (hd : kf_dq cc pc pc1 1 (.idiv)) (k : kf_WA X G nL Q pc1 lv (.int (x / y) :: st) σ) : kf_WA X G nL Q pc lv (.int y :: .int x :: st) σ := by
  obtain ⟨hd, rfl⟩ := hd
  intro H locs ls hP hS hl
  exact lv_idiv E.1 E.2.1 hd hne (k H locs ls hP hS hl)
theorem wa_irem {x y : Int32} (hne : ¬ y = 0) (E : kf_ok X G cc own nL ret d) (hd : kf_dq cc pc pc1 1 (.irem)) (k : kf_WA X G nL Q pc1 lv (.int (x - x / y * y) :: st) σ) : kf_WA X G nL Q pc lv (.int y :: .int x :: st) σ := by
  obtain ⟨hd, rfl⟩ := hd
  intro H locs ls hP hS hl
  exact lv_irem E.1 E.2.1 hd hne (k H locs ls hP hS hl)
theorem wa_ineg {x : Int32} (E : kf_ok X G cc own nL ret d) (hd : kf_dq cc pc pc1 1 (.ineg)) (k : kf_WA X G nL Q pc1 lv (.int (-x) :: st) σ) : kf_WA X G nL Q pc lv (.int x :: st) σ := by
  obtain ⟨hd, rfl⟩ := hd
  intro H locs ls hP hS hl
  exact lv_ineg E.1 E.2.1 hd (k H locs ls hP hS hl)
theorem wa_ladd {x y : Int64} (E : kf_ok X G cc own nL ret d) (hd : kf_dq cc pc pc1 1 (.ladd)) (k : kf_WA X G nL Q pc1 lv (.long (x + y) :: st) σ) : kf_WA X G nL Q pc lv (.long y :: .long x :: st) σ := by
  obtain ⟨hd, rfl⟩ := hd
  intro H locs ls hP hS hl
  exact lv_ladd E.1 E.2.1 hd (k H locs ls hP hS hl)
theorem wa_lmul {x y : Int64} (E : kf_ok X G cc own nL ret d) (hd : kf_dq cc pc pc1 1 (.lmul)) (k : kf_WA X G nL Q pc1 lv (.long (x * y) :: st) σ) : kf_WA X G nL Q pc lv (.long y :: .long x :: st) σ := by
  obtain ⟨hd, rfl⟩ := hd
  intro H locs ls hP hS hl
  exact lv_lmul E.1 E.2.1 hd (k H locs ls hP hS hl)
theorem wa_lcmp {x y : Int64} (E : kf_ok X G cc own nL ret d) (hd : kf_dq cc pc pc1 1 (.lcmp)) (k : kf_WA X G nL Q pc1 lv (.int (lg_cmp x y) :: st) σ) : kf_WA X G nL Q pc lv (.long y :: .long x :: st) σ := by
  obtain ⟨hd, rfl⟩ := hd
  intro H locs ls hP hS hl
  exact W.lcmp E.1 E.2.1 hd (k H locs ls hP hS hl)
theorem wa_i2l {x : Int32} (E : kf_ok X G cc own nL ret d) (hd : kf_dq cc pc pc1 1 (.i2l)) (k : kf_WA X G nL Q pc1 lv (.long x.toInt64 :: st) σ) : kf_WA X G nL Q pc lv (.int x :: st) σ := by
  obtain ⟨hd, rfl⟩ := hd
  intro H locs ls hP hS hl
  exact lv_i2l E.1 E.2.1 hd rfl (k H locs ls hP hS hl)
theorem wa_l2i {x : Int64} (E : kf_ok X G cc own nL ret d) (hd : kf_dq cc pc pc1 1 (.l2i)) (k : kf_WA X G nL Q pc1 lv (.int x.toInt32 :: st) σ) : kf_WA X G nL Q pc lv (.long x :: st) σ := by
  obtain ⟨hd, rfl⟩ := hd
  intro H locs ls hP hS hl
  exact lv_l2i E.1 E.2.1 hd rfl (k H locs ls hP hS hl)
theorem wa_i2b {x : Int32} (E : kf_ok X G cc own nL ret d) (hd : kf_dq cc pc pc1 1 (.i2b)) (k : kf_WA X G nL Q pc1 lv (.int x.toInt8.toInt32 :: st) σ) : kf_WA X G nL Q pc lv (.int x :: st) σ := by
  obtain ⟨hd, rfl⟩ := hd
  intro H locs ls hP hS hl
  exact lv_i2b E.1 E.2.1 hd rfl (k H locs ls hP hS hl)
theorem wa_i2c {x : Int32} (E : kf_ok X G cc own nL ret d) (hd : kf_dq cc pc pc1 1 (.i2c)) (k : kf_WA X G nL Q pc1 lv (.int (x.toUInt32 % 65536).toInt32 :: st) σ) : kf_WA X G nL Q pc lv (.int x :: st) σ := by
  obtain ⟨hd, rfl⟩ := hd
  intro H locs ls hP hS hl
  exact lv_i2c E.1 E.2.1 hd rfl (k H locs ls hP hS hl)
theorem wa_dup {va : Value} (hva : va.category = 1) (E : kf_ok X G cc own nL ret d) (hd : kf_dq cc pc pc1 1 (.dup)) (k : kf_WA X G nL Q pc1 lv (va :: va :: st) σ) : kf_WA X G nL Q pc lv (va :: st) σ := by
  obtain ⟨hd, rfl⟩ := hd
  intro H locs ls hP hS hl
  exact lv_dup E.1 E.2.1 hd hva (k H locs ls hP hS hl)
theorem wa_pop {va : Value} (hva : va.category = 1) (E : kf_ok X G cc own nL ret d) (hd : kf_dq cc pc pc1 1 (.pop)) (k : kf_WA X G nL Q pc1 lv (st) σ) : kf_WA X G nL Q pc lv (va :: st) σ := by
  obtain ⟨hd, rfl⟩ := hd
  intro H locs ls hP hS hl
  exact lv_pop E.1 E.2.1 hd hva (k H locs ls hP hS hl)
theorem wa_dup2 {va vb : Value} (hva : va.category = 1) (hvb : vb.category = 1) (E : kf_ok X G cc own nL ret d) (hd : kf_dq cc pc pc1 1 (.dup2)) (k : kf_WA X G nL Q pc1 lv (va :: vb :: va :: vb :: st) σ) : kf_WA X G nL Q pc lv (va :: vb :: st) σ := by
  obtain ⟨hd, rfl⟩ := hd
  intro H locs ls hP hS hl
  exact lv_dup2_11 E.1 E.2.1 hd hva hvb (k H locs ls hP hS hl)
theorem wa_ldc {n : Nat} {v : Int32} (hw : Cond.constant own n v ∈ kf_T) (E : kf_ok X G cc own nL ret d) (hd : kf_dq cc pc pc1 2 (.ldc n)) (k : kf_WA X G nL Q pc1 lv (.int v :: st) σ) : kf_WA X G nL Q pc lv (st) σ := by
  obtain ⟨hd, rfl⟩ := hd
  intro H locs ls hP hS hl
  exact lv_ldc E.1 E.2.1 E.2.2.2.1 (E.2.2.2.2.1 _ hw) hd (k H locs ls hP hS hl)
theorem wa_ldcw {n : Nat} {v : Int32} (hw : Cond.constant own n v ∈ kf_T) (E : kf_ok X G cc own nL ret d) (hd : kf_dq cc pc pc1 3 (.ldc_w n)) (k : kf_WA X G nL Q pc1 lv (.int v :: st) σ) : kf_WA X G nL Q pc lv (st) σ := by
  obtain ⟨hd, rfl⟩ := hd
  intro H locs ls hP hS hl
  exact lv_ldcw E.1 E.2.1 E.2.2.2.1 (E.2.2.2.2.1 _ hw) hd (k H locs ls hP hS hl)
theorem wa_ldc2 {n : Nat} {v : Int64} (hw : Cond.constantLong own n v ∈ kf_T) (E : kf_ok X G cc own nL ret d) (hd : kf_dq cc pc pc1 3 (.ldc2_w n)) (k : kf_WA X G nL Q pc1 lv (.long v :: st) σ) : kf_WA X G nL Q pc lv (st) σ := by
  obtain ⟨hd, rfl⟩ := hd
  intro H locs ls hP hS hl
  exact lv_ldc2 E.1 E.2.1 E.2.2.2.1 (E.2.2.2.2.1 _ hw) hd (k H locs ls hP hS hl)
theorem wa_icmp_eq {x y : Int32} (E : kf_ok X G cc own nL ret d) (hd : kf_dj cc pc pc1 tgt (.if_icmp .eq)) (kt : x = y → kf_WA X G nL Q tgt lv st σ) (kf : ¬ x = y → kf_WA X G nL Q pc1 lv st σ) : kf_WA X G nL Q pc lv (.int y :: .int x :: st) σ := by
  obtain ⟨off, hd, rfl, ht⟩ := hd
  intro H locs ls hP hS hl
  exact lv_icmp_eq E.1 E.2.1 hd ht (fun h => kt h H locs ls hP hS hl) (fun h => kf h H locs ls hP hS hl)
theorem wa_if_eq {x : Int32} (E : kf_ok X G cc own nL ret d) (hd : kf_dj cc pc pc1 tgt (.ifCond .eq)) (kt : x = 0 → kf_WA X G nL Q tgt lv st σ) (kf : ¬ x = 0 → kf_WA X G nL Q pc1 lv st σ) : kf_WA X G nL Q pc lv (.int x :: st) σ := by
  obtain ⟨off, hd, rfl, ht⟩ := hd
  intro H locs ls hP hS hl
  exact lv_if_eq E.1 E.2.1 hd ht (fun h => kt h H locs ls hP hS hl) (fun h => kf h H locs ls hP hS hl)
theorem wa_icmp_ne {x y : Int32} (E : kf_ok X G cc own nL ret d) (hd : kf_dj cc pc pc1 tgt (.if_icmp .ne)) (kt : ¬ x = y → kf_WA X G nL Q tgt lv st σ) (kf : x = y → kf_WA X G nL Q pc1 lv st σ) : kf_WA X G nL Q pc lv (.int y :: .int x :: st) σ := by
  obtain ⟨off, hd, rfl, ht⟩ := hd
  intro H locs ls hP hS hl
  exact lv_icmp_ne E.1 E.2.1 hd ht (fun h => kt h H locs ls hP hS hl) (fun h => kf h H locs ls hP hS hl)
theorem wa_if_ne {x : Int32} (E : kf_ok X G cc own nL ret d) (hd : kf_dj cc pc pc1 tgt (.ifCond .ne)) (kt : ¬ x = 0 → kf_WA X G nL Q tgt lv st σ) (kf : x = 0 → kf_WA X G nL Q pc1 lv st σ) : kf_WA X G nL Q pc lv (.int x :: st) σ := by
  obtain ⟨off, hd, rfl, ht⟩ := hd
  intro H locs ls hP hS hl
  exact lv_if_ne E.1 E.2.1 hd ht (fun h => kt h H locs ls hP hS hl) (fun h => kf h H locs ls hP hS hl)
theorem wa_icmp_lt {x y : Int32} (E : kf_ok X G cc own nL ret d) (hd : kf_dj cc pc pc1 tgt (.if_icmp .lt)) (kt : x < y → kf_WA X G nL Q tgt lv st σ) (kf : ¬ x < y → kf_WA X G nL Q pc1 lv st σ) : kf_WA X G nL Q pc lv (.int y :: .int x :: st) σ := by
  obtain ⟨off, hd, rfl, ht⟩ := hd
  intro H locs ls hP hS hl
  exact lv_icmp_lt E.1 E.2.1 hd ht (fun h => kt h H locs ls hP hS hl) (fun h => kf h H locs ls hP hS hl)
theorem wa_if_lt {x : Int32} (E : kf_ok X G cc own nL ret d) (hd : kf_dj cc pc pc1 tgt (.ifCond .lt)) (kt : x < 0 → kf_WA X G nL Q tgt lv st σ) (kf : ¬ x < 0 → kf_WA X G nL Q pc1 lv st σ) : kf_WA X G nL Q pc lv (.int x :: st) σ := by
  obtain ⟨off, hd, rfl, ht⟩ := hd
  intro H locs ls hP hS hl
  exact lv_if_lt E.1 E.2.1 hd ht (fun h => kt h H locs ls hP hS hl) (fun h => kf h H locs ls hP hS hl)
theorem wa_icmp_ge {x y : Int32} (E : kf_ok X G cc own nL ret d) (hd : kf_dj cc pc pc1 tgt (.if_icmp .ge)) (kt : y ≤ x → kf_WA X G nL Q tgt lv st σ) (kf : ¬ y ≤ x → kf_WA X G nL Q pc1 lv st σ) : kf_WA X G nL Q pc lv (.int y :: .int x :: st) σ := by
  obtain ⟨off, hd, rfl, ht⟩ := hd
  intro H locs ls hP hS hl
  exact lv_icmp_ge E.1 E.2.1 hd ht (fun h => kt h H locs ls hP hS hl) (fun h => kf h H locs ls hP hS hl)
theorem wa_if_ge {x : Int32} (E : kf_ok X G cc own nL ret d) (hd : kf_dj cc pc pc1 tgt (.ifCond .ge)) (kt : 0 ≤ x → kf_WA X G nL Q tgt lv st σ) (kf : ¬ 0 ≤ x → kf_WA X G nL Q pc1 lv st σ) : kf_WA X G nL Q pc lv (.int x :: st) σ := by
  obtain ⟨off, hd, rfl, ht⟩ := hd
  intro H locs ls hP hS hl
  exact lv_if_ge E.1 E.2.1 hd ht (fun h => kt h H locs ls hP hS hl) (fun h => kf h H locs ls hP hS hl)
theorem wa_icmp_gt {x y : Int32} (E : kf_ok X G cc own nL ret d) (hd : kf_dj cc pc pc1 tgt (.if_icmp .gt)) (kt : y < x → kf_WA X G nL Q tgt lv st σ) (kf : ¬ y < x → kf_WA X G nL Q pc1 lv st σ) : kf_WA X G nL Q pc lv (.int y :: .int x :: st) σ := by
  obtain ⟨off, hd, rfl, ht⟩ := hd
  intro H locs ls hP hS hl
  exact lv_icmp_gt E.1 E.2.1 hd ht (fun h => kt h H locs ls hP hS hl) (fun h => kf h H locs ls hP hS hl)
theorem wa_if_gt {x : Int32} (E : kf_ok X G cc own nL ret d) (hd : kf_dj cc pc pc1 tgt (.ifCond .gt)) (kt : 0 < x → kf_WA X G nL Q tgt lv st σ) (kf : ¬ 0 < x → kf_WA X G nL Q pc1 lv st σ) : kf_WA X G nL Q pc lv (.int x :: st) σ := by
  obtain ⟨off, hd, rfl, ht⟩ := hd
  intro H locs ls hP hS hl
  exact lv_if_gt E.1 E.2.1 hd ht (fun h => kt h H locs ls hP hS hl) (fun h => kf h H locs ls hP hS hl)
theorem wa_icmp_le {x y : Int32} (E : kf_ok X G cc own nL ret d) (hd : kf_dj cc pc pc1 tgt (.if_icmp .le)) (kt : x ≤ y → kf_WA X G nL Q tgt lv st σ) (kf : ¬ x ≤ y → kf_WA X G nL Q pc1 lv st σ) : kf_WA X G nL Q pc lv (.int y :: .int x :: st) σ := by
  obtain ⟨off, hd, rfl, ht⟩ := hd
  intro H locs ls hP hS hl
  exact lv_icmp_le E.1 E.2.1 hd ht (fun h => kt h H locs ls hP hS hl) (fun h => kf h H locs ls hP hS hl)
theorem wa_if_le {x : Int32} (E : kf_ok X G cc own nL ret d) (hd : kf_dj cc pc pc1 tgt (.ifCond .le)) (kt : x ≤ 0 → kf_WA X G nL Q tgt lv st σ) (kf : ¬ x ≤ 0 → kf_WA X G nL Q pc1 lv st σ) : kf_WA X G nL Q pc lv (.int x :: st) σ := by
  obtain ⟨off, hd, rfl, ht⟩ := hd
  intro H locs ls hP hS hl
  exact lv_if_le E.1 E.2.1 hd ht (fun h => kt h H locs ls hP hS hl) (fun h => kf h H locs ls hP hS hl)
theorem wa_goto (E : kf_ok X G cc own nL ret d) (hd : kf_dj cc pc pc1 tgt .goto) (k : kf_WA X G nL Q tgt lv st σ) : kf_WA X G nL Q pc lv st σ := by
  obtain ⟨off, hd, rfl, ht⟩ := hd
  intro H locs ls hP hS hl
  exact lv_goto E.1 E.2.1 hd ht (k H locs ls hP hS hl)
theorem wa_tabOut {dflt lo hi : Int} {offs : Array Int} {len : Nat} {x : Int32} (h : x.toInt < lo ∨ hi < x.toInt) (ht : (pc : Int) + dflt = (tgt : Int)) (E : kf_ok X G cc own nL ret d) (hd : decode cc pc = .ok (.tableswitch dflt lo hi offs, len)) (k : kf_WA X G nL Q tgt lv st σ) : kf_WA X G nL Q pc lv (.int x :: st) σ := by
  intro H locs ls hP hS hl
  exact lv_tableOut E.1 E.2.1 hd h ht (k H locs ls hP hS hl)
theorem wa_tabIn {dflt lo hi : Int} {offs : Array Int} {len : Nat} {x : Int32} {off : Int} (h1 : ¬ x.toInt < lo) (h2 : ¬ hi < x.toInt) (ho : offs[(x.toInt - lo).toNat]? = some off) (ht : (pc : Int) + off = (tgt : Int)) (E : kf_ok X G cc own nL ret d) (hd : decode cc pc = .ok (.tableswitch dflt lo hi offs, len)) (k : kf_WA X G nL Q tgt lv st σ) : kf_WA X G nL Q pc lv (.int x :: st) σ := by
  intro H locs ls hP hS hl
  exact lv_tableIn E.1 E.2.1 hd h1 h2 ho ht (k H locs ls hP hS hl)
theorem wa_iret {v : Int32} (E : kf_ok X G cc own nL (some .int) d) (hd : kf_dq cc pc pc1 1 .ireturn) : kf_WA X G nL (kf_Q X G (some (.int v)) σ) pc lv [.int v] σ := by
  intro H locs ls hP hS hl
  exact W.iret E.1 E.2.1 E.2.2.2.2.2.2.1 (fun t ht hW => ⟨⟨rfl, by rw [ht]; exact hP⟩, hS.F ht⟩) hS.2.2 hd.1 E.2.2.2.2.2.1
theorem wa_zret {v : Int32} {ty : FieldType} (hn : narrow ty (.int v) = .int v) (E : kf_ok X G cc own nL (some ty) d) (hd : kf_dq cc pc pc1 1 .ireturn) : kf_WA X G nL (kf_Q X G (some (.int v)) σ) pc lv [.int v] σ := by
  intro H locs ls hP hS hl
  exact W.zret E.1 E.2.1 E.2.2.2.2.2.2.1 hn (fun t ht hW => ⟨⟨rfl, by rw [ht]; exact hP⟩, hS.F ht⟩) hS.2.2 hd.1 E.2.2.2.2.2.1
theorem wa_lret {v : Int64} (E : kf_ok X G cc own nL (some .long) d) (hd : kf_dq cc pc pc1 1 .lreturn) : kf_WA X G nL (kf_Q X G (some (.long v)) σ) pc lv [.long v] σ := by
  intro H locs ls hP hS hl
  exact W.lret E.1 E.2.1 E.2.2.2.2.2.2.1 (fun t ht hW => ⟨⟨rfl, by rw [ht]; exact hP⟩, hS.F ht⟩) hS.2.2 hd.1 E.2.2.2.2.2.1
theorem wa_vret (E : kf_ok X G cc own nL none d) (hd : kf_dq cc pc pc1 1 .return_) : kf_WA X G nL (kf_Q X G none σ) pc lv [] σ := by
  intro H locs ls hP hS hl
  exact W.vret E.1 E.2.1 E.2.2.2.2.2.2.1 (fun t ht hW => ⟨⟨rfl, by rw [ht]; exact hP⟩, hS.F ht⟩) hS.2.2 hd.1 E.2.2.2.2.2.1
theorem wa_aret {v : Nat} {rt : FieldType} (hrt : (∃ n, rt = .object n) ∨ ∃ t, rt = .array t) (E : kf_ok X G cc own nL (some rt) d) (hd : kf_dq cc pc pc1 1 .areturn) : kf_WA X G nL (kf_Q X G (some (.ref v)) σ) pc lv [.ref v] σ := by
  intro H locs ls hP hS hl
  exact W.aret E.1 E.2.1 E.2.2.2.2.2.2.1 hrt (Or.inr ⟨_, rfl⟩) (fun t ht hW => ⟨⟨rfl, by rw [ht]; exact hP⟩, hS.F ht⟩) hS.2.2 hd.1 E.2.2.2.2.2.1
/-! fields: FL own n c j: the entry n of own's table is the field j of the class c -/
def kf_FL (own : String) (n c j : Nat) : Prop := ∃ (C : String) (T : u_T) (N : Nat), kf_cl[c]? = some (C, T, N) ∧ j < N ∧ N = (kf_ft c).length ∧ c < 40 ∧ (∀ w ∈ u_ws C T N, w ∈ kf_T) ∧ Cond.fieldLink own n (T j).1 (T j).2.1 (T j).2.2.1 ∈ kf_T
theorem kf_cell_obj {c k : Nat} (h : kf_kd G k = c + 1) (hc : c < 40) : kf_cell G σ k = .inr (c, kf_fs (kf_ad G) σ k 0 (kf_ft c)) := by
  unfold kf_cell kf_cellK
  rw [h]
  rw [if_neg (by omega), if_neg (by omega), if_neg (by omega), if_neg (by omega), if_neg (by omega)]
  rfl
theorem wa_getf {n c j k t : Nat} (hF : kf_FL own n c j) (hk : kf_kd G k = c + 1) (ht : (kf_ft c)[j]? = some t) (E : kf_ok X G cc own nL ret d) (hd : kf_dq cc pc pc1 3 (.getfield n)) (kk : kf_WA X G nL Q pc1 lv (kf_fv (kf_ad G) σ k j t :: st) σ) : kf_WA X G nL Q pc lv (.ref (kf_ad G k) :: st) σ := by
  obtain ⟨hd, rfl⟩ := hd
  obtain ⟨C, T, N, hc, hj, hN, h40, hin, hl⟩ := hF
  intro H locs ls hP hS hlv
  obtain ⟨q, hq⟩ := kf_get (G := G) σ (k := k) (by omega)
  rw [kf_cell_obj hk h40] at hq
  exact va_get (T := T) E.1 E.2.1 E.2.2.2.2.1 hin E.2.2.2.1 E.2.2.2.2.2.2.2.1 hP q hq hc j hj (E.2.2.2.2.1 _ hl) (fun _ h => h) (v := kf_fv (kf_ad G) σ k j t) (by rw [kf_fs_get, ht, Nat.zero_add]; rfl) hd (kk H locs ls hP hS hlv)
theorem wa_getI {n c j k : Nat} (hF : kf_FL own n c j) (hk : kf_kd G k = c + 1) (ht : (kf_ft c)[j]? = some 0) (E : kf_ok X G cc own nL ret d) (hd : kf_dq cc pc pc1 3 (.getfield n)) (kk : kf_WA X G nL Q pc1 lv (.int (σ.1 k j) :: st) σ) : kf_WA X G nL Q pc lv (.ref (kf_ad G k) :: st) σ := wa_getf hF hk ht E hd kk
theorem wa_getZ {n c j k : Nat} (hF : kf_FL own n c j) (hk : kf_kd G k = c + 1) (ht : (kf_ft c)[j]? = some 3) (E : kf_ok X G cc own nL ret d) (hd : kf_dq cc pc pc1 3 (.getfield n)) (kk : kf_WA X G nL Q pc1 lv (.int (σ.1 k j) :: st) σ) : kf_WA X G nL Q pc lv (.ref (kf_ad G k) :: st) σ := wa_getf hF hk ht E hd kk
theorem wa_getJ {n c j k : Nat} (hF : kf_FL own n c j) (hk : kf_kd G k = c + 1) (ht : (kf_ft c)[j]? = some 1) (E : kf_ok X G cc own nL ret d) (hd : kf_dq cc pc pc1 3 (.getfield n)) (kk : kf_WA X G nL Q pc1 lv (.long (σ.2 k j) :: st) σ) : kf_WA X G nL Q pc lv (.ref (kf_ad G k) :: st) σ := wa_getf hF hk ht E hd kk
theorem wa_getR {n c j k : Nat} (hF : kf_FL own n c j) (hk : kf_kd G k = c + 1) (ht : (kf_ft c)[j]? = some 2) (E : kf_ok X G cc own nL ret d) (hd : kf_dq cc pc pc1 3 (.getfield n)) (kk : kf_WA X G nL Q pc1 lv (.ref (kf_ad G (kf_rf k j)) :: st) σ) : kf_WA X G nL Q pc lv (.ref (kf_ad G k) :: st) σ := wa_getf hF hk ht E hd kk
/-- the one field of a nest mate that is private -/
theorem wa_getN {k : Nat} (hk : kf_kd G k = 8 + 1) (hin : ∀ w ∈ u_ws RX8 TX8 9, w ∈ kf_T) (E : kf_ok X G cc RX6 nL ret d) (hd : kf_dq cc pc pc1 3 (.getfield 58)) (kk : kf_WA X G nL Q pc1 lv (.ref (kf_ad G (kf_rf k 3)) :: st) σ) : kf_WA X G nL Q pc lv (.ref (kf_ad G k) :: st) σ := by
  obtain ⟨hd, rfl⟩ := hd
  intro H locs ls hP hS hlv
  obtain ⟨q, hq⟩ := kf_get (G := G) σ (k := k) (by omega)
  rw [kf_cell_obj hk (by omega)] at hq
  exact va_getN (T := TX8) (host := "KnockerFaces") E.1 E.2.1 E.2.2.2.2.1 hin E.2.2.2.1 E.2.2.2.2.2.2.2.1 hP q hq rfl 3 (by omega) (va_Nw.use rfl E.2.2.2.2.2.2.2.2.1.1) (fun _ h => h) (v := .ref (kf_ad G (kf_rf k 3))) (by rw [kf_fs_get]; rfl) hd (kk H locs ls hP hS hlv)
/-- what a write needs: the type of the field, that it isn't final -/
def kf_FP (c j : Nat) (ty : FieldType) : Prop := ∃ (C : String) (T : u_T) (N : Nat) (ty0 : Nat → FieldType), kf_cl[c]? = some (C, T, N) ∧ (∀ k, k < N → parseFieldDescriptor (T k).2.2.1 = some (ty0 k)) ∧ (∀ a, a < N → ∀ b, b < N → a ≠ b → (T a).2.1 ≠ (T b).2.1) ∧ (T j).2.2.2 = false ∧ parseFieldDescriptor (T j).2.2.1 = some ty
theorem wa_putI {n c j k t : Nat} {v : Int32} {ty : FieldType} {σ' : kf_St} (hF : kf_FL own n c j) (hG : kf_FP c j ty) (hk : kf_kd G k = c + 1) (ht : (kf_ft c)[j]? = some t) (ht1 : t ≠ 1 ∧ t ≠ 2) (hn : narrow ty (.int v) = .int v) (hfit : fits ty (.int v) = true) (E : kf_ok X G cc own nL ret d) (hd : kf_dq cc pc pc1 3 (.putfield n)) (hσ : σ' = kf_wi σ k j v) (kk : kf_WA X G nL Q pc1 lv st σ') : kf_WA X G nL Q pc lv (.int v :: .ref (kf_ad G k) :: st) σ := by
  subst hσ
  obtain ⟨hd, rfl⟩ := hd
  obtain ⟨C, T, N, hc, hj, hN, h40, hin, hl⟩ := hF
  obtain ⟨C', T', N', ty0, hc', hty, hnm, hfin, hpd⟩ := hG
  cases hc.symm.trans hc'
  intro H locs ls hP hS hlv
  obtain ⟨q, hq⟩ := kf_get (G := G) σ (k := k) (by omega)
  have hq0 := hq
  rw [kf_cell_obj hk h40] at hq
  refine va_put (T := T) E.1 E.2.1 E.2.2.2.2.1 hin ty0 hty hnm E.2.2.2.1 E.2.2.2.2.2.2.2.1 hP (kf_Dok E.2.2.2.2.2.2.2.2.2.2.2.2.2 σ) hS q hq hc j hj (E.2.2.2.2.1 _ hl) (fun _ h => h) hfin hpd hn hfit (by rw [kf_fs_len, ← hN]; exact hj) hd (fun H1 locs1 hP1 hD1 hS1 => ?_)
  have he : kf_cell G (kf_wi σ k j v) k = .inr (c, (kf_fs (kf_ad G) σ k 0 (kf_ft c)).set j (.int v)) := by
    rw [kf_cell_obj hk h40]
    have := kf_fs_wi (B := kf_ad G) (σ := σ) (k := k) (j := j) (v := v) (kf_ft c) 0 (fun t' h => by rw [ht] at h; cases h; exact ht1)
    rw [Nat.zero_add] at this
    rw [this]
  rw [kf_set E.2.2.2.2.2.2.2.2.2.2.2.2.2 (σ' := kf_wi σ k j v) (by omega) hq0 he (fun a ha => kf_cell_other (kf_wi_o ha) rfl)] at hP1
  exact kk H1 locs1 ls hP1 hS1 hlv
theorem wa_putJ {n c j k : Nat} {v : Int64} {σ' : kf_St} (hF : kf_FL own n c j) (hG : kf_FP c j .long) (hk : kf_kd G k = c + 1) (ht : (kf_ft c)[j]? = some 1) (E : kf_ok X G cc own nL ret d) (hd : kf_dq cc pc pc1 3 (.putfield n)) (hσ : σ' = kf_wl σ k j v) (kk : kf_WA X G nL Q pc1 lv st σ') : kf_WA X G nL Q pc lv (.long v :: .ref (kf_ad G k) :: st) σ := by
  subst hσ
  obtain ⟨hd, rfl⟩ := hd
  obtain ⟨C, T, N, hc, hj, hN, h40, hin, hl⟩ := hF
  obtain ⟨C', T', N', ty0, hc', hty, hnm, hfin, hpd⟩ := hG
  cases hc.symm.trans hc'
  intro H locs ls hP hS hlv
  obtain ⟨q, hq⟩ := kf_get (G := G) σ (k := k) (by omega)
  have hq0 := hq
  rw [kf_cell_obj hk h40] at hq
  refine va_put (T := T) E.1 E.2.1 E.2.2.2.2.1 hin ty0 hty hnm E.2.2.2.1 E.2.2.2.2.2.2.2.1 hP (kf_Dok E.2.2.2.2.2.2.2.2.2.2.2.2.2 σ) hS q hq hc j hj (E.2.2.2.2.1 _ hl) (fun _ h => h) hfin hpd rfl rfl (by rw [kf_fs_len, ← hN]; exact hj) hd (fun H1 locs1 hP1 hD1 hS1 => ?_)
  have he : kf_cell G (kf_wl σ k j v) k = .inr (c, (kf_fs (kf_ad G) σ k 0 (kf_ft c)).set j (.long v)) := by
    rw [kf_cell_obj hk h40]
    have := kf_fs_wl (B := kf_ad G) (σ := σ) (k := k) (j := j) (v := v) (kf_ft c) 0 (fun t' h => by rw [ht] at h; cases h; rfl)
    rw [Nat.zero_add] at this
    rw [this]
  rw [kf_set E.2.2.2.2.2.2.2.2.2.2.2.2.2 (σ' := kf_wl σ k j v) (by omega) hq0 he (fun a ha => kf_cell_other rfl (kf_wl_o ha))] at hP1
  exact kk H1 locs1 ls hP1 hS1 hlv
theorem kf_cell_i {k : Nat} (h : kf_kd G k = 50) : kf_cell G σ k = .inl (kf_aC G 0, kf_ln k, .inl (σ.1 k)) := by
  unfold kf_cell kf_cellK; rw [h]; rfl
theorem kf_cell_l {k : Nat} (h : kf_kd G k = 51) : kf_cell G σ k = .inl (kf_aC G 1, kf_ln k, .inr (.inl (σ.2 k))) := by
  unfold kf_cell kf_cellK; rw [h]; rfl
theorem kf_cell_b {k : Nat} (h : kf_kd G k = 52) : kf_cell G σ k = .inl (kf_aC G 2, kf_ln k, .inl (σ.1 k)) := by
  unfold kf_cell kf_cellK; rw [h]; rfl
theorem kf_cell_z {k : Nat} (h : kf_kd G k = 53) : kf_cell G σ k = .inl (kf_aC G 3, kf_ln k, .inl (σ.1 k)) := by
  unfold kf_cell kf_cellK; rw [h]; rfl
theorem kf_cell_q {k : Nat} (h : kf_kd G k = 54) : kf_cell G σ k = .inl (kf_aC G 4, kf_ln k, .inr (.inr (.inr (.inr (fun j => some (kf_ad G (kf_rf k j))))))) := by
  unfold kf_cell kf_cellK; rw [h]; rfl
/-- an index: its place, if it is one -/
def kf_ix (i : Int32) (n : Nat) : Bool := decide (¬ (i < 0 ∨ n ≤ i.toNatClampNeg))
theorem kf_ix_in {i : Int32} {n : Nat} (h : kf_ix i n = true) : vp_in i n := of_decide_eq_true (p := ¬ (i < 0 ∨ n ≤ i.toNatClampNeg)) h
theorem wa_iald {k : Nat} {i : Int32} (hk : kf_kd G k = 50) (hin : kf_ix i (kf_ln k) = true) (E : kf_ok X G cc own nL ret d) (hd : kf_dq cc pc pc1 1 .iaload) (kk : kf_WA X G nL Q pc1 lv (.int (σ.1 k i.toNatClampNeg) :: st) σ) : kf_WA X G nL Q pc lv (.int i :: .ref (kf_ad G k) :: st) σ := by
  obtain ⟨hd, rfl⟩ := hd
  intro H locs ls hP hS hlv
  obtain ⟨q, hq⟩ := kf_get (G := G) σ (k := k) (by omega)
  rw [kf_cell_i hk] at hq
  exact va_iald E.1 E.2.1 E.2.2.2.2.2.2.2.1 hP q 0 hq rfl (kf_ix_in hin) hd (kk H locs ls hP hS hlv)
theorem wa_iast {k : Nat} {i : Int32} {x : Int32} {σ' : kf_St} (hk : kf_kd G k = 50) (hin : kf_ix i (kf_ln k) = true) (E : kf_ok X G cc own nL ret d) (hd : kf_dq cc pc pc1 1 .iastore) (hσ : σ' = kf_wi σ k i.toNatClampNeg x) (kk : kf_WA X G nL Q pc1 lv st σ') : kf_WA X G nL Q pc lv (.int x :: .int i :: .ref (kf_ad G k) :: st) σ := by
  subst hσ
  obtain ⟨hd, rfl⟩ := hd
  intro H locs ls hP hS hlv
  obtain ⟨q, hq⟩ := kf_get (G := G) σ (k := k) (by omega)
  have hq0 := hq
  rw [kf_cell_i hk] at hq
  refine va_iast E.1 E.2.1 E.2.2.2.2.2.2.2.1 hP (kf_Dok E.2.2.2.2.2.2.2.2.2.2.2.2.2 σ) hS q 0 hq rfl (kf_ix_in hin) hd (fun H1 locs1 hP1 hD1 hS1 => ?_)
  rw [kf_set E.2.2.2.2.2.2.2.2.2.2.2.2.2 (σ' := kf_wi σ k i.toNatClampNeg x) (by omega) hq0 (by rw [kf_cell_i hk, kf_wi_s]) (fun a ha => kf_cell_other (kf_wi_o ha) rfl)] at hP1
  exact kk H1 locs1 ls hP1 hS1 hlv
theorem wa_lald {k : Nat} {i : Int32} (hk : kf_kd G k = 51) (hin : kf_ix i (kf_ln k) = true) (E : kf_ok X G cc own nL ret d) (hd : kf_dq cc pc pc1 1 .laload) (kk : kf_WA X G nL Q pc1 lv (.long (σ.2 k i.toNatClampNeg) :: st) σ) : kf_WA X G nL Q pc lv (.int i :: .ref (kf_ad G k) :: st) σ := by
  obtain ⟨hd, rfl⟩ := hd
  intro H locs ls hP hS hlv
  obtain ⟨q, hq⟩ := kf_get (G := G) σ (k := k) (by omega)
  rw [kf_cell_l hk] at hq
  exact va_lald E.1 E.2.1 E.2.2.2.2.2.2.2.1 hP q 1 hq rfl (kf_ix_in hin) hd (kk H locs ls hP hS hlv)
theorem wa_last {k : Nat} {i : Int32} {x : Int64} {σ' : kf_St} (hk : kf_kd G k = 51) (hin : kf_ix i (kf_ln k) = true) (E : kf_ok X G cc own nL ret d) (hd : kf_dq cc pc pc1 1 .lastore) (hσ : σ' = kf_wl σ k i.toNatClampNeg x) (kk : kf_WA X G nL Q pc1 lv st σ') : kf_WA X G nL Q pc lv (.long x :: .int i :: .ref (kf_ad G k) :: st) σ := by
  subst hσ
  obtain ⟨hd, rfl⟩ := hd
  intro H locs ls hP hS hlv
  obtain ⟨q, hq⟩ := kf_get (G := G) σ (k := k) (by omega)
  have hq0 := hq
  rw [kf_cell_l hk] at hq
  refine va_last E.1 E.2.1 E.2.2.2.2.2.2.2.1 hP (kf_Dok E.2.2.2.2.2.2.2.2.2.2.2.2.2 σ) hS q 1 hq rfl (kf_ix_in hin) hd (fun H1 locs1 hP1 hD1 hS1 => ?_)
  rw [kf_set E.2.2.2.2.2.2.2.2.2.2.2.2.2 (σ' := kf_wl σ k i.toNatClampNeg x) (by omega) hq0 (by rw [kf_cell_l hk, kf_wl_s]) (fun a ha => kf_cell_other rfl (kf_wl_o ha))] at hP1
  exact kk H1 locs1 ls hP1 hS1 hlv
theorem wa_bald {k : Nat} {i : Int32} (hk : kf_kd G k = 52) (hin : kf_ix i (kf_ln k) = true) (E : kf_ok X G cc own nL ret d) (hd : kf_dq cc pc pc1 1 .baload) (kk : kf_WA X G nL Q pc1 lv (.int (σ.1 k i.toNatClampNeg) :: st) σ) : kf_WA X G nL Q pc lv (.int i :: .ref (kf_ad G k) :: st) σ := by
  obtain ⟨hd, rfl⟩ := hd
  intro H locs ls hP hS hlv
  obtain ⟨q, hq⟩ := kf_get (G := G) σ (k := k) (by omega)
  rw [kf_cell_b hk] at hq
  exact va_bald E.1 E.2.1 E.2.2.2.2.2.2.2.1 hP q 2 hq rfl (kf_ix_in hin) hd (kk H locs ls hP hS hlv)
theorem wa_bast {k : Nat} {i : Int32} {x : Int32} {σ' : kf_St} (hk : kf_kd G k = 52) (hin : kf_ix i (kf_ln k) = true) (E : kf_ok X G cc own nL ret d) (hd : kf_dq cc pc pc1 1 .bastore) (hσ : σ' = kf_wi σ k i.toNatClampNeg (vp_nar .byte x)) (kk : kf_WA X G nL Q pc1 lv st σ') : kf_WA X G nL Q pc lv (.int x :: .int i :: .ref (kf_ad G k) :: st) σ := by
  subst hσ
  obtain ⟨hd, rfl⟩ := hd
  intro H locs ls hP hS hlv
  obtain ⟨q, hq⟩ := kf_get (G := G) σ (k := k) (by omega)
  have hq0 := hq
  rw [kf_cell_b hk] at hq
  refine va_bast E.1 E.2.1 E.2.2.2.2.2.2.2.1 hP (kf_Dok E.2.2.2.2.2.2.2.2.2.2.2.2.2 σ) hS q 2 hq rfl (kf_ix_in hin) hd (fun H1 locs1 hP1 hD1 hS1 => ?_)
  rw [kf_set E.2.2.2.2.2.2.2.2.2.2.2.2.2 (σ' := kf_wi σ k i.toNatClampNeg (vp_nar .byte x)) (by omega) hq0 (by rw [kf_cell_b hk, kf_wi_s]) (fun a ha => kf_cell_other (kf_wi_o ha) rfl)] at hP1
  exact kk H1 locs1 ls hP1 hS1 hlv
theorem wa_zald {k : Nat} {i : Int32} (hk : kf_kd G k = 53) (hin : kf_ix i (kf_ln k) = true) (E : kf_ok X G cc own nL ret d) (hd : kf_dq cc pc pc1 1 .baload) (kk : kf_WA X G nL Q pc1 lv (.int (σ.1 k i.toNatClampNeg) :: st) σ) : kf_WA X G nL Q pc lv (.int i :: .ref (kf_ad G k) :: st) σ := by
  obtain ⟨hd, rfl⟩ := hd
  intro H locs ls hP hS hlv
  obtain ⟨q, hq⟩ := kf_get (G := G) σ (k := k) (by omega)
  rw [kf_cell_z hk] at hq
  exact va_zald E.1 E.2.1 E.2.2.2.2.2.2.2.1 hP q 3 hq rfl (kf_ix_in hin) hd (kk H locs ls hP hS hlv)
theorem wa_zast {k : Nat} {i : Int32} {x : Int32} {σ' : kf_St} (hk : kf_kd G k = 53) (hin : kf_ix i (kf_ln k) = true) (E : kf_ok X G cc own nL ret d) (hd : kf_dq cc pc pc1 1 .bastore) (hσ : σ' = kf_wi σ k i.toNatClampNeg (vp_nar .boolean x)) (kk : kf_WA X G nL Q pc1 lv st σ') : kf_WA X G nL Q pc lv (.int x :: .int i :: .ref (kf_ad G k) :: st) σ := by
  subst hσ
  obtain ⟨hd, rfl⟩ := hd
  intro H locs ls hP hS hlv
  obtain ⟨q, hq⟩ := kf_get (G := G) σ (k := k) (by omega)
  have hq0 := hq
  rw [kf_cell_z hk] at hq
  refine va_zast E.1 E.2.1 E.2.2.2.2.2.2.2.1 hP (kf_Dok E.2.2.2.2.2.2.2.2.2.2.2.2.2 σ) hS q 3 hq rfl (kf_ix_in hin) hd (fun H1 locs1 hP1 hD1 hS1 => ?_)
  rw [kf_set E.2.2.2.2.2.2.2.2.2.2.2.2.2 (σ' := kf_wi σ k i.toNatClampNeg (vp_nar .boolean x)) (by omega) hq0 (by rw [kf_cell_z hk, kf_wi_s]) (fun a ha => kf_cell_other (kf_wi_o ha) rfl)] at hP1
  exact kk H1 locs1 ls hP1 hS1 hlv
theorem wa_aald {k : Nat} {i : Int32} (hk : kf_kd G k = 54) (hin : kf_ix i (kf_ln k) = true) (E : kf_ok X G cc own nL ret d) (hd : kf_dq cc pc pc1 1 .aaload) (kk : kf_WA X G nL Q pc1 lv (.ref (kf_ad G (kf_rf k i.toNatClampNeg)) :: st) σ) : kf_WA X G nL Q pc lv (.int i :: .ref (kf_ad G k) :: st) σ := by
  obtain ⟨hd, rfl⟩ := hd
  intro H locs ls hP hS hlv
  obtain ⟨q, hq⟩ := kf_get (G := G) σ (k := k) (by omega)
  rw [kf_cell_q hk] at hq
  exact va_aldq E.1 E.2.1 E.2.2.2.2.2.2.2.1 hP q 4 hq rfl (kf_ix_in hin) hd (kk H locs ls hP hS hlv)
theorem wa_alen_i {k : Nat} (hk : kf_kd G k = 50) (E : kf_ok X G cc own nL ret d) (hd : kf_dq cc pc pc1 1 .arraylength) (kk : kf_WA X G nL Q pc1 lv (.int (nI (kf_ln k)) :: st) σ) : kf_WA X G nL Q pc lv (.ref (kf_ad G k) :: st) σ := by
  obtain ⟨hd, rfl⟩ := hd
  intro H locs ls hP hS hlv
  obtain ⟨q, hq⟩ := kf_get (G := G) σ (k := k) (by omega)
  rw [kf_cell_i hk] at hq
  exact va_alen E.1 E.2.1 E.2.2.2.2.2.2.2.1 hP q 0 hq rfl rfl hd (kk H locs ls hP hS hlv)
theorem wa_alen_l {k : Nat} (hk : kf_kd G k = 51) (E : kf_ok X G cc own nL ret d) (hd : kf_dq cc pc pc1 1 .arraylength) (kk : kf_WA X G nL Q pc1 lv (.int (nI (kf_ln k)) :: st) σ) : kf_WA X G nL Q pc lv (.ref (kf_ad G k) :: st) σ := by
  obtain ⟨hd, rfl⟩ := hd
  intro H locs ls hP hS hlv
  obtain ⟨q, hq⟩ := kf_get (G := G) σ (k := k) (by omega)
  rw [kf_cell_l hk] at hq
  exact va_alen E.1 E.2.1 E.2.2.2.2.2.2.2.1 hP q 1 hq rfl rfl hd (kk H locs ls hP hS hlv)
theorem wa_alen_b {k : Nat} (hk : kf_kd G k = 52) (E : kf_ok X G cc own nL ret d) (hd : kf_dq cc pc pc1 1 .arraylength) (kk : kf_WA X G nL Q pc1 lv (.int (nI (kf_ln k)) :: st) σ) : kf_WA X G nL Q pc lv (.ref (kf_ad G k) :: st) σ := by
  obtain ⟨hd, rfl⟩ := hd
  intro H locs ls hP hS hlv
  obtain ⟨q, hq⟩ := kf_get (G := G) σ (k := k) (by omega)
  rw [kf_cell_b hk] at hq
  exact va_alen E.1 E.2.1 E.2.2.2.2.2.2.2.1 hP q 2 hq rfl rfl hd (kk H locs ls hP hS hlv)
theorem wa_alen_z {k : Nat} (hk : kf_kd G k = 53) (E : kf_ok X G cc own nL ret d) (hd : kf_dq cc pc pc1 1 .arraylength) (kk : kf_WA X G nL Q pc1 lv (.int (nI (kf_ln k)) :: st) σ) : kf_WA X G nL Q pc lv (.ref (kf_ad G k) :: st) σ := by
  obtain ⟨hd, rfl⟩ := hd
  intro H locs ls hP hS hlv
  obtain ⟨q, hq⟩ := kf_get (G := G) σ (k := k) (by omega)
  rw [kf_cell_z hk] at hq
  exact va_alen E.1 E.2.1 E.2.2.2.2.2.2.2.1 hP q 3 hq rfl rfl hd (kk H locs ls hP hS hlv)
theorem wa_alen_q {k : Nat} (hk : kf_kd G k = 54) (E : kf_ok X G cc own nL ret d) (hd : kf_dq cc pc pc1 1 .arraylength) (kk : kf_WA X G nL Q pc1 lv (.int (nI (kf_ln k)) :: st) σ) : kf_WA X G nL Q pc lv (.ref (kf_ad G k) :: st) σ := by
  obtain ⟨hd, rfl⟩ := hd
  intro H locs ls hP hS hlv
  obtain ⟨q, hq⟩ := kf_get (G := G) σ (k := k) (by omega)
  rw [kf_cell_q hk] at hq
  exact va_alen E.1 E.2.1 E.2.2.2.2.2.2.2.1 hP q 4 hq rfl rfl hd (kk H locs ls hP hS hlv)
theorem wa_mabs {x : Int32} {n : Nat} (hlink : Cond.methodLink own n Lib.Math.abs.name ∈ kf_T) (hstat : Cond.static Lib.Math.abs.name ∈ kf_T) (hini : Cond.initialized "java/lang/Math" ∈ kf_T) (hcode : Cond.code Lib.Math.abs.name Lib.Math.abs.code 1 (some .int) ∈ kf_T) (hr : (st.map fun v => v.category).sum ≤ 8) (h1 : 1 ≤ d) (E : kf_ok X G cc own nL ret d) (hd : kf_dq cc pc pc1 3 (.invokestatic n)) (kk : kf_WA X G nL Q pc1 lv (.int (if 0 ≤ x then x else 0 - x) :: st) σ) : kf_WA X G nL Q pc lv (.int x :: st) σ := by
  obtain ⟨hd, rfl⟩ := hd
  intro H locs ls hP hS hlv
  obtain ⟨hx, hb, hml, hown, hts, hlk, hrt, hK, hxs, r1, r2, r3, r4, hinj⟩ := E
  exact va_mabs hx hb (by rw [hml]; exact hlv.1.symm) hown (hts _ hlink) (hts _ hstat) (hts _ hini) (hts _ hcode) (by omega) (by omega) r3 r4 hd (kk H locs ls hP hS hlv)
theorem wa_mmax {x y : Int32} {n : Nat} (hlink : Cond.methodLink own n Lib.Math.max.name ∈ kf_T) (hstat : Cond.static Lib.Math.max.name ∈ kf_T) (hini : Cond.initialized "java/lang/Math" ∈ kf_T) (hcode : Cond.code Lib.Math.max.name Lib.Math.max.code 2 (some .int) ∈ kf_T) (hr : (st.map fun v => v.category).sum ≤ 8) (h1 : 1 ≤ d) (E : kf_ok X G cc own nL ret d) (hd : kf_dq cc pc pc1 3 (.invokestatic n)) (kk : kf_WA X G nL Q pc1 lv (.int (if x < y then y else x) :: st) σ) : kf_WA X G nL Q pc lv (.int y :: .int x :: st) σ := by
  obtain ⟨hd, rfl⟩ := hd
  intro H locs ls hP hS hlv
  obtain ⟨hx, hb, hml, hown, hts, hlk, hrt, hK, hxs, r1, r2, r3, r4, hinj⟩ := E
  exact va_mmax hx hb (by rw [hml]; exact hlv.1.symm) hown (hts _ hlink) (hts _ hstat) (hts _ hini) (hts _ hcode) (by omega) (by omega) r3 r4 hd (kk H locs ls hP hS hlv)
theorem wa_mmin {x y : Int32} {n : Nat} (hlink : Cond.methodLink own n Lib.Math.min.name ∈ kf_T) (hstat : Cond.static Lib.Math.min.name ∈ kf_T) (hini : Cond.initialized "java/lang/Math" ∈ kf_T) (hcode : Cond.code Lib.Math.min.name Lib.Math.min.code 2 (some .int) ∈ kf_T) (hr : (st.map fun v => v.category).sum ≤ 8) (h1 : 1 ≤ d) (E : kf_ok X G cc own nL ret d) (hd : kf_dq cc pc pc1 3 (.invokestatic n)) (kk : kf_WA X G nL Q pc1 lv (.int (if y < x then y else x) :: st) σ) : kf_WA X G nL Q pc lv (.int y :: .int x :: st) σ := by
  obtain ⟨hd, rfl⟩ := hd
  intro H locs ls hP hS hlv
  obtain ⟨hx, hb, hml, hown, hts, hlk, hrt, hK, hxs, r1, r2, r3, r4, hinj⟩ := E
  exact va_mmin hx hb (by rw [hml]; exact hlv.1.symm) hown (hts _ hlink) (hts _ hstat) (hts _ hini) (hts _ hcode) (by omega) (by omega) r3 r4 hd (kk H locs ls hP hS hlv)
/-- what a copy of cells needs -/
def kf_cok (sp dp n : Int32) (a b : Nat) : Bool := decide (¬ sp < 0 ∧ ¬ dp < 0 ∧ ¬ n < 0 ∧ sp.toNatClampNeg + n.toNatClampNeg ≤ a ∧ dp.toNatClampNeg + n.toNatClampNeg ≤ b)
def kf_CW (own : String) (n : Nat) : Prop := Cond.methodLink own n arraycopyName ∈ kf_T ∧ Cond.native arraycopyName ∈ kf_T ∧ Cond.static arraycopyName ∈ kf_T ∧ Cond.initialized "java/lang/System" ∈ kf_T
theorem wa_copyi {a b ix : Nat} {sp dp n : Int32} {σ' : kf_St} (hw : kf_CW own ix) (ha : kf_kd G a = 50) (hb : kf_kd G b = 50) (hc : kf_cok sp dp n (kf_ln a) (kf_ln b) = true) (hr : (st.map fun v => v.category).sum ≤ 8) (h1 : 1 ≤ d) (E : kf_ok X G cc own nL ret d) (hd : kf_dq cc pc pc1 3 (.invokestatic ix)) (hσ : σ' = kf_ci σ a b sp.toNatClampNeg dp.toNatClampNeg n.toNatClampNeg) (kk : kf_WA X G nL Q pc1 lv st σ') : kf_WA X G nL Q pc lv (.int n :: .int dp :: .ref (kf_ad G b) :: .int sp :: .ref (kf_ad G a) :: st) σ := by
  subst hσ
  obtain ⟨hd, rfl⟩ := hd
  obtain ⟨c1, c2, c3, c4, c5⟩ := of_decide_eq_true hc
  intro H locs ls hP hS hlv
  obtain ⟨hx, hbb, hml, hown, hts, hlk, hrt, hK, hxs, r1, r2, r3, r4, hinj⟩ := E
  obtain ⟨q0, hq0⟩ := kf_get (G := G) σ (k := a) (by omega)
  obtain ⟨q1, hq1⟩ := kf_get (G := G) σ (k := b) (by omega)
  have hq9 := hq1
  rw [kf_cell_i ha] at hq0
  rw [kf_cell_i hb] at hq1
  have hnw : nativeFrameWords "java/lang/System" "arraycopy" 5 + 11 ≤ 40 := by decide
  refine va_copyi hx hbb (by rw [hml]; exact hlv.1.symm) hown (hts _ hw.1) (hts _ hw.2.1) (hts _ hw.2.2.1) (hts _ hw.2.2.2) hK hP (kf_Dok hinj σ) hS q0 q1 0 0 hq0 hq1 rfl rfl rfl c1 c2 c3 c4 c5 (fun i _ => rfl) (by omega) (by omega) hd (fun H1 locs1 hP1 hD1 hS1 => ?_)
  rw [kf_set hinj (σ' := kf_ci σ a b sp.toNatClampNeg dp.toNatClampNeg n.toNatClampNeg) (by omega) hq9 (by rw [kf_cell_i hb]; simp [kf_ci]) (fun x hxb => kf_cell_other (by funext j; simp [kf_ci, hxb]) rfl)] at hP1
  exact kk H1 locs1 ls hP1 hS1 hlv
theorem wa_copyl {a b ix : Nat} {sp dp n : Int32} {σ' : kf_St} (hw : kf_CW own ix) (ha : kf_kd G a = 51) (hb : kf_kd G b = 51) (hc : kf_cok sp dp n (kf_ln a) (kf_ln b) = true) (hr : (st.map fun v => v.category).sum ≤ 8) (h1 : 1 ≤ d) (E : kf_ok X G cc own nL ret d) (hd : kf_dq cc pc pc1 3 (.invokestatic ix)) (hσ : σ' = kf_cl2 σ a b sp.toNatClampNeg dp.toNatClampNeg n.toNatClampNeg) (kk : kf_WA X G nL Q pc1 lv st σ') : kf_WA X G nL Q pc lv (.int n :: .int dp :: .ref (kf_ad G b) :: .int sp :: .ref (kf_ad G a) :: st) σ := by
  subst hσ
  obtain ⟨hd, rfl⟩ := hd
  obtain ⟨c1, c2, c3, c4, c5⟩ := of_decide_eq_true hc
  intro H locs ls hP hS hlv
  obtain ⟨hx, hbb, hml, hown, hts, hlk, hrt, hK, hxs, r1, r2, r3, r4, hinj⟩ := E
  obtain ⟨q0, hq0⟩ := kf_get (G := G) σ (k := a) (by omega)
  obtain ⟨q1, hq1⟩ := kf_get (G := G) σ (k := b) (by omega)
  have hq9 := hq1
  rw [kf_cell_l ha] at hq0
  rw [kf_cell_l hb] at hq1
  have hnw : nativeFrameWords "java/lang/System" "arraycopy" 5 + 11 ≤ 40 := by decide
  refine va_copyl hx hbb (by rw [hml]; exact hlv.1.symm) hown (hts _ hw.1) (hts _ hw.2.1) (hts _ hw.2.2.1) (hts _ hw.2.2.2) hK hP (kf_Dok hinj σ) hS q0 q1 1 1 hq0 hq1 rfl rfl rfl c1 c2 c3 c4 c5 (fun i _ => rfl) (by omega) (by omega) hd (fun H1 locs1 hP1 hD1 hS1 => ?_)
  rw [kf_set hinj (σ' := kf_cl2 σ a b sp.toNatClampNeg dp.toNatClampNeg n.toNatClampNeg) (by omega) hq9 (by rw [kf_cell_l hb]; simp [kf_cl2]) (fun x hxb => kf_cell_other rfl (by funext j; simp [kf_cl2, hxb]))] at hP1
  exact kk H1 locs1 ls hP1 hS1 hlv
/-! calls: mi: what the tables say of a method -/
def kf_mi (y : MethodName) (cc : ByteArray) (mL : Nat) (ret : Option FieldType) (n : Nat) : Prop := Cond.code y cc mL ret ∈ kf_T ∧ Cond.initialized y.cls ∈ kf_T ∧ (y.cls ≠ "java/lang/invoke/MethodHandle" ∧ y.cls ≠ "java/lang/invoke/VarHandle" ∧ (parseMethodDescriptor y.desc).map (fun d => d.parameters.length) = some n) ∧ mL ≤ 40
def kf_mv (y : MethodName) (cc : ByteArray) (mL : Nat) (ret : Option FieldType) (n c : Nat) : Prop := kf_mi y cc mL ret n ∧ Cond.instanceMethod y ∈ kf_T ∧ Cond.selects y.cls y y ∈ kf_T ∧ (kf_cl[c]?).map (fun q => q.1) = some y.cls ∧ c < 40
def kf_mt (y : MethodName) (cc : ByteArray) (mL : Nat) (ret : Option FieldType) (n : Nat) : Prop := kf_mi y cc mL ret n ∧ Cond.static y ∈ kf_T
theorem kf_blind (av : List Value) (σ : kf_St) : FrameBlind (va_Pc av (kf_U G σ)) := by
  intro a U g mk h
  obtain ⟨h0, h1, h2, h3⟩ := h
  exact ⟨h0, h1, va_K.moved (u := U) (U := U.calling g mk a) (Vm.Alike.refl U.vm) h2, h3⟩
theorem kf_pre {s U : State} {H : Heap} {locs : List Loc} {σ : kf_St} (hK : va_K (kf_D G) kf_cl (kf_tys G) s) (hxs : kf_xs G s) (hP : va_P (kf_D G) kf_cl (kf_W G σ) H) (hS : va_S (kf_A G) s.heap H locs) (hU : U.heap = H) (hW : s.WarmedH U.vm) : kf_U G σ U :=
  ⟨by rw [hU]; exact hP, va_K.moved hW.alike hK, kf_xs_moved hW (fun q h1 h2 => by rw [hU]; exact hS.2.1 q h1 h2) hxs⟩
theorem kf_behind {p : Program} {l : Launch} {e : Env} {R : Room} {s : State} {m : MethodId} {args : Array Value} {below : List Frame} {meth : Method} {c : Code} {H : Heap} {locs : List Loc} {cells slots : Nat} {ls : Array Slot} {st0 rest : List Value} {a : Array Value} {o : Option Value} {σ' : kf_St}
    (hr : va_Run p l e R s m args below meth c H locs cells slots 0 0 (F0 m pc ls st0) rest (kf_Qc G o σ' a) (kf_A G)) (hS : va_S (kf_A G) s.heap H locs)
    (kk : ∀ (H1 : Heap) (locs1 : List Loc), va_P (kf_D G) kf_cl (kf_W G σ') H1 → va_S (kf_A G) s.heap H1 locs1 → W p l e R s m args below meth c H1 locs1 cells slots Q (F0 m (pc + 3) ls (o.toList ++ rest))) : W p l e R s m args below meth c H locs cells slots Q (F0 m pc ls st0) := by
  intro T hT X
  obtain ⟨v, st₀, t, T', L, h0, X', hL, e1, e2, ⟨⟨hv, hP1⟩, hF⟩, hgo⟩ := hr T hT X
  cases hv
  have hS1 : va_S (kf_A G) s.heap T'.heap (locs ++ L) := by
    refine ⟨?_, fun q hq hA => ?_, fun x hx => ?_⟩
    · rw [e1]; exact Nat.le_trans hS.1 (by rw [← h0]; exact hF.1)
    · rw [e1, hF.2 q (by rw [h0]; exact Nat.lt_of_lt_of_le hq hS.1) hA, h0]
      exact hS.2.1 q hq hA
    · rcases List.mem_append.mp hx with h | h
      · exact hS.2.2 x h
      · exact hL x h
  obtain ⟨t2, a1, b1⟩ := kk T'.heap (locs ++ L) (by rw [e1]; exact hP1) hS1 T' rfl X'
  exact ⟨t2, hgo t2 a1, b1⟩
theorem kf_callB {y : MethodName} {cc' : ByteArray} {mL n ix d' : Nat} {ret' : Option FieldType} (hm : kf_mi y cc' mL ret' n) (hl : Cond.methodLink own ix y ∈ kf_T) (hdd : d' < d) (E : kf_ok X G cc own nL ret d) : CallB (kx_R X) (kx_s X) (kx_a X) own ix y cc' mL ret' (Cond.code y cc' mL ret' :: kf_T) (kf_room d') 0 0 n := by
  obtain ⟨hx, hb, hml, hown, hts, hlk, hrt, hK, hxs, r1, r2, r3, r4, hinj⟩ := E
  obtain ⟨m1, m2, m3, m4⟩ := hm
  refine callB_of n hts (kf_good m1) rfl rfl rfl (hts _ m2) (hts _ hl) m3 ⟨?_, ?_⟩
  · show d' + 1 ≤ _; omega
  · show 8 + (mL + 11) + 64 * d' ≤ _; omega
theorem wa_callV {y : MethodName} {cc' : ByteArray} {mL n ix d' c k : Nat} {ret' : Option FieldType} {As rest st2 : List Value} {o : Option Value} {σ' : kf_St} (hc : kf_Ct d' y cc' mL ret' G (.ref (kf_ad G k) :: As) σ o σ') (hmv : kf_mv y cc' mL ret' n c) (hl : Cond.methodLink own ix y ∈ kf_T) (hk : kf_kd G k = c + 1) (hn : As.length = n) (hdd : d' < d) (hst : st = As.reverse ++ .ref (kf_ad G k) :: rest) (hr : (rest.map fun v => v.category).sum ≤ 8) (E : kf_ok X G cc own nL ret d) (hd : kf_dq cc pc pc1 3 (.invokevirtual ix)) (h2 : o.toList ++ rest = st2) (kk : kf_WA X G nL Q pc1 lv st2 σ') : kf_WA X G nL Q pc lv st σ := by
  subst hst
  subst h2
  obtain ⟨hm, hi, hs, hcl, hc40⟩ := hmv
  obtain ⟨hd, rfl⟩ := hd
  intro H locs ls hP hS hlv
  have hB := kf_callB hm hl hdd E
  obtain ⟨hx, hb, hml, hown, hts, hlk, hrt, hK, hxs, r1, r2, r3, r4, hinj⟩ := E
  obtain ⟨q, hq⟩ := kf_get (G := G) σ (k := k) (by omega)
  rw [kf_cell_obj hk hc40] at hq
  cases hcc : kf_cl[c]? with
  | none => rw [hcc] at hcl; cases hcl
  | some w =>
    have hcls : w.1 = y.cls := by rw [hcc] at hcl; exact Option.some.inj hcl
    refine kf_behind (va_runV (C := y.cls) (As := As) (rest := rest) ⟨hx, hb, hml, hown, hts⟩ (hc (kx_l X)) ⟨hB, hts _ hi, hts _ hs⟩ ⟨kf_blind _ _, by rw [← hcls]; exact va_recv hK hP hcc hq, fun U hU hW => ⟨rfl, kf_pre hK hxs hP hS hU hW⟩⟩ rfl hn hlv.1 rfl (lv_room hr) hd ⟨r3, r4⟩) hS (fun H1 locs1 hP1 hS1 => ?_)
    exact kk H1 locs1 ls hP1 hS1 hlv
theorem wa_callS {y : MethodName} {cc' : ByteArray} {mL n ix d' : Nat} {ret' : Option FieldType} {As rest st2 : List Value} {o : Option Value} {σ' : kf_St} (hc : kf_Ct d' y cc' mL ret' G As σ o σ') (hmt : kf_mt y cc' mL ret' n) (hl : Cond.methodLink own ix y ∈ kf_T) (hn : As.length = n) (hdd : d' < d) (hst : st = As.reverse ++ rest) (hr : (rest.map fun v => v.category).sum ≤ 8) (E : kf_ok X G cc own nL ret d) (hd : kf_dq cc pc pc1 3 (.invokestatic ix)) (h2 : o.toList ++ rest = st2) (kk : kf_WA X G nL Q pc1 lv st2 σ') : kf_WA X G nL Q pc lv st σ := by
  subst hst
  subst h2
  obtain ⟨hm, hi⟩ := hmt
  obtain ⟨hd, rfl⟩ := hd
  intro H locs ls hP hS hlv
  have hB := kf_callB hm hl hdd E
  obtain ⟨hx, hb, hml, hown, hts, hlk, hrt, hK, hxs, r1, r2, r3, r4, hinj⟩ := E
  refine kf_behind (va_runS (As := As) (rest := rest) ⟨hx, hb, hml, hown, hts⟩ (hc (kx_l X)) ⟨hB, hts _ hi⟩ ⟨kf_blind _ _, fun U hU hW => ⟨rfl, kf_pre hK hxs hP hS hU hW⟩⟩ rfl hn hlv.1 rfl (lv_room hr) hd ⟨r3, r4⟩) hS (fun H1 locs1 hP1 hS1 => ?_)
  exact kk H1 locs1 ls hP1 hS1 hlv
/-! texts -/
abbrev kf_tk (G : kf_G) (i : Nat) : Nat := G.2.2.2.2.2.1 i
abbrev kf_tv (G : kf_G) (i : Nat) : Nat := G.2.2.2.2.2.2 i
theorem wa_ldcS {n i : Nat} {tx : String} (hZ : vk_R own n tx (kf_tk G i) (kx_s X)) (E : kf_ok X G cc own nL ret d) (hd : kf_dq cc pc pc1 2 (.ldc n)) (k : kf_WA X G nL Q pc1 lv (.ref (kf_tk G i) :: st) σ) : kf_WA X G nL Q pc lv st σ := by
  obtain ⟨hd, rfl⟩ := hd
  intro H locs ls hP hS hl
  exact va_ldcS E.1 E.2.1 E.2.2.2.1 hZ hd (k H locs ls hP hS hl)
theorem wa_gval {n i : Nat} (hi : i < 2) (hl : Cond.fieldLink own n "java/lang/String" "value" "[B" ∈ kf_T) (E : kf_ok X G cc own nL ret d) (hd : kf_dq cc pc pc1 3 (.getfield n)) (k : kf_WA X G nL Q pc1 lv (.ref (kf_tv G i) :: st) σ) : kf_WA X G nL Q pc lv (.ref (kf_tk G i) :: st) σ := by
  obtain ⟨hd, rfl⟩ := hd
  intro H locs ls hP hS hlv
  exact vk_getf E.1 E.2.1 (E.2.2.2.2.2.2.2.2.1.2.2.2.1.1 i hi).2.2.1 hS E.2.2.2.1 (E.2.2.2.2.1 _ hl) (fun _ h => h) hd (k H locs ls hP hS hlv)
theorem wa_gcod {n i : Nat} (hi : i < 2) (hl : Cond.fieldLink own n "java/lang/String" "coder" "B" ∈ kf_T) (E : kf_ok X G cc own nL ret d) (hd : kf_dq cc pc pc1 3 (.getfield n)) (k : kf_WA X G nL Q pc1 lv (.int 0 :: st) σ) : kf_WA X G nL Q pc lv (.ref (kf_tk G i) :: st) σ := by
  obtain ⟨hd, rfl⟩ := hd
  intro H locs ls hP hS hlv
  exact vk_getf E.1 E.2.1 (E.2.2.2.2.2.2.2.2.1.2.2.2.1.1 i hi).2.1 hS E.2.2.2.1 (E.2.2.2.2.1 _ hl) (fun _ h => h) hd (k H locs ls hP hS hlv)
theorem wa_gcmp {n : Nat} (hl : Cond.fieldLink own n "java/lang/String" "COMPACT_STRINGS" "Z" ∈ kf_T) (E : kf_ok X G cc own nL ret d) (hd : kf_dq cc pc pc1 3 (.getstatic n)) (k : kf_WA X G nL Q pc1 lv (.int 1 :: st) σ) : kf_WA X G nL Q pc lv st σ := by
  obtain ⟨hd, rfl⟩ := hd
  intro H locs ls hP hS hlv
  exact va_gets E.1 E.2.1 E.2.2.2.2.2.2.2.2.1.2.2.2.2.1 hS E.2.2.2.1 (E.2.2.2.2.1 _ hl) (fun _ h => h) hd (k H locs ls hP hS hlv)
theorem wa_tald {i : Nat} {j : Int32} (hi : i < 2) (hin : kf_ix j (kf_len.getD i 0) = true) (E : kf_ok X G cc own nL ret d) (hd : kf_dq cc pc pc1 1 .baload) (k : kf_WA X G nL Q pc1 lv (.int ((kf_byt.getD i []).getD j.toNatClampNeg 0) :: st) σ) : kf_WA X G nL Q pc lv (.int j :: .ref (kf_tv G i) :: st) σ := by
  obtain ⟨hd, rfl⟩ := hd
  intro H locs ls hP hS hlv
  exact va_tb E.1 E.2.1 (E.2.2.2.2.2.2.2.2.1.2.2.2.1.1 i hi).2.2.2 hS (kf_ix_in hin) rfl hd (k H locs ls hP hS hlv)
theorem wa_tlen {i : Nat} (hi : i < 2) (E : kf_ok X G cc own nL ret d) (hd : kf_dq cc pc pc1 1 .arraylength) (k : kf_WA X G nL Q pc1 lv (.int (nI (kf_len.getD i 0)) :: st) σ) : kf_WA X G nL Q pc lv (.ref (kf_tv G i) :: st) σ := by
  obtain ⟨hd, rfl⟩ := hd
  intro H locs ls hP hS hlv
  exact va_tlen E.1 E.2.1 (E.2.2.2.2.2.2.2.2.1.2.2.2.1.1 i hi).2.2.2 hS rfl hd (k H locs ls hP hS hlv)
def kf_mj (y : MethodName) (cc : ByteArray) (mL : Nat) (ret : Option FieldType) (n : Nat) : Prop := kf_mi y cc mL ret n ∧ Cond.instanceMethod y ∈ kf_T ∧ Cond.selects y.cls y y ∈ kf_T ∧ y.cls = "java/lang/String"
theorem wa_callT {y : MethodName} {cc' : ByteArray} {mL n ix d' i : Nat} {ret' : Option FieldType} {As rest st2 : List Value} {o : Option Value} {σ' : kf_St} (hc : kf_Ct d' y cc' mL ret' G (.ref (kf_tk G i) :: As) σ o σ') (hmv : kf_mj y cc' mL ret' n) (hl : Cond.methodLink own ix y ∈ kf_T) (hi2 : i < 2) (hn : As.length = n) (hdd : d' < d) (hst : st = As.reverse ++ .ref (kf_tk G i) :: rest) (hr : (rest.map fun v => v.category).sum ≤ 8) (E : kf_ok X G cc own nL ret d) (hd : kf_dq cc pc pc1 3 (.invokevirtual ix)) (h2 : o.toList ++ rest = st2) (kk : kf_WA X G nL Q pc1 lv st2 σ') : kf_WA X G nL Q pc lv st σ := by
  subst hst
  subst h2
  obtain ⟨hm, hi, hs, hcl⟩ := hmv
  obtain ⟨hd, rfl⟩ := hd
  intro H locs ls hP hS hlv
  have hB := kf_callB hm hl hdd E
  obtain ⟨hx, hb, hml, hown, hts, hlk, hrt, hK, hxs, r1, r2, r3, r4, hinj⟩ := E
  refine kf_behind (va_runV (C := y.cls) (As := As) (rest := rest) ⟨hx, hb, hml, hown, hts⟩ (hc (kx_l X)) ⟨hB, hts _ hi, hts _ hs⟩ ⟨kf_blind _ _, by rw [hcl]; exact vk_recv hxs.2.2.2.1 hi2 hS, fun U hU hW => ⟨rfl, kf_pre hK hxs hP hS hU hW⟩⟩ rfl hn hlv.1 rfl (lv_room hr) hd ⟨r3, r4⟩) hS (fun H1 locs1 hP1 hS1 => ?_)
  exact kk H1 locs1 ls hP1 hS1 hlv
theorem wa_topi {x y : Int32} (h : y = x) (k : kf_WA X G nL Q pc lv (.int y :: st) σ) : kf_WA X G nL Q pc lv (.int x :: st) σ := h ▸ k
theorem wa_topl {x y : Int64} (h : y = x) (k : kf_WA X G nL Q pc lv (.long y :: st) σ) : kf_WA X G nL Q pc lv (.long x :: st) σ := h ▸ k
end KW
theorem kf_Ct_d {d d' : Nat} {y : MethodName} {cc : ByteArray} {mL : Nat} {ret : Option FieldType} {G : kf_G} {av : List Value} {σ σ' : kf_St} {o : Option Value} (h : kf_Ct d y cc mL ret G av σ o σ') (e : d = d') : kf_Ct d' y cc mL ret G av σ o σ' := e ▸ h
def kf_F : Nat := 1000000
theorem kf_inc {n : Int} {m x v : Int32} (h : Int32.ofInt n = m) (e : v = x + m) : x + Int32.ofInt n = v := by rw [h, e]
theorem kf_gn {α : Type} {c : Prop} [Decidable c] {a : Option α} {r : α} (h : (if c then none else a) = some r) : ¬ c ∧ a = some r := by
  by_cases hc : c
  · rw [if_pos hc] at h; cases h
  · rw [if_neg hc] at h; exact ⟨hc, h⟩
def kf_zb (v : Int32) : Bool := decide (v = 0 ∨ v = 1)
theorem kf_zbn {v : Int32} (h : kf_zb v = true) : narrow .boolean (.int v) = .int v := by
  rcases of_decide_eq_true (p := v = 0 ∨ v = 1) h with e | e <;> subst e <;> rfl
theorem kf_zbf {v : Int32} (h : kf_zb v = true) : fits .boolean (.int v) = true := by
  rcases of_decide_eq_true (p := v = 0 ∨ v = 1) h with e | e <;> subst e <;> rfl
theorem kf_z0 : narrow .boolean (.int 0) = .int 0 := kf_zbn (by decide)
theorem kf_z1 : narrow .boolean (.int 1) = .int 1 := kf_zbn (by decide)
theorem kf_b0 : narrow .byte (.int 0) = .int 0 := by decide
theorem kf_f0 : fits .boolean (.int 0) = true := kf_zbf (by decide)
theorem kf_f1 : fits .boolean (.int 1) = true := kf_zbf (by decide)
theorem kf_out {x : Int32} {lo hi : Int} (l : List Int32) (hl : (List.range (hi - lo + 1).toNat).all (fun i => l.any (fun v => decide (v.toInt = lo + (i : Int)))) = true) (h : ∀ v ∈ l, ¬ x = v) : x.toInt < lo ∨ hi < x.toInt := by
  by_cases h1 : x.toInt < lo
  · exact Or.inl h1
  · by_cases h2 : hi < x.toInt
    · exact Or.inr h2
    · have h3 := List.all_eq_true.mp hl (x.toInt - lo).toNat (List.mem_range.mpr (by omega))
      obtain ⟨v, hv, e⟩ := List.any_eq_true.mp h3
      have e2 := of_decide_eq_true e
      exact absurd (Int32.toInt_inj.mp (by rw [e2]; omega)) (h v hv)
/-! the functions' own words -/
def kf_lt {α β : Type} (v : α) (f : α → β) : β := f v
theorem kf_ift {α : Type} {c : Prop} [Decidable c] {a b r : α} (hc : c) (h : (if c then a else b) = r) : a = r := by rw [if_pos hc] at h; exact h
theorem kf_iff {α : Type} {c : Prop} [Decidable c] {a b r : α} (hc : ¬ c) (h : (if c then a else b) = r) : b = r := by rw [if_neg hc] at h; exact h
theorem kf_gd {α : Type} {c : Prop} [Decidable c] {a : Option α} {r : α} (h : (if c then a else none) = some r) : c ∧ a = some r := by
  by_cases hc : c
  · rw [if_pos hc] at h; exact ⟨hc, h⟩
  · rw [if_neg hc] at h; cases h
theorem kf_lte {α β : Type} {v : α} {f : α → β} {r : β} (h : kf_lt v f = r) : ∃ x, x = v ∧ f x = r := ⟨v, rfl, h⟩
theorem kf_bd {α β : Type} {x : Option α} {f : α → Option β} {r : β} (h : x.bind f = some r) : ∃ q, x = some q ∧ f q = some r := by
  cases x with
  | none => cases h
  | some q => exact ⟨q, rfl, h⟩
/-- kinds along references -/
def kf_rt (c : Nat) : List Nat := kf_rtl.getD c []
def kf_wt (G : kf_G) : Prop := kf_inj G ∧ (∀ (k c j t : Nat), kf_kd G k = c + 1 → c < 40 → (kf_rt c)[j]? = some (t + 1) → kf_kd G (kf_rf k j) = t + 1) ∧ ∀ (k j : Nat), kf_kd G k = 54 → j < kf_ln k → kf_kd G (kf_rf k j) = 2
theorem kf_wtf {G : kf_G} (h : kf_wt G) {k c : Nat} (j t : Nat) (hk : kf_kd G k = c + 1) (hc : c < 40) (ht : (kf_rt c)[j]? = some (t + 1)) : kf_kd G (kf_rf k j) = t + 1 := h.2.1 k c j t hk hc ht
theorem kf_wta {G : kf_G} (h : kf_wt G) {k : Nat} {i : Int32} (hk : kf_kd G k = 54) (hi : kf_ix i (kf_ln k) = true) : kf_kd G (kf_rf k i.toNatClampNeg) = 2 := h.2.2 k _ hk (by
  have := kf_ix_in hi
  unfold vp_in at this
  omega)
