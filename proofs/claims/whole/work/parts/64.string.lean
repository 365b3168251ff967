/-! String's own methods, over the text FIRST_TEXT: nothing is written -/
def js_Q (r : Option Value) : Array Value → State → Outcome → State → Prop := fun _ st oc t => oc = .returned r ∧ va_F (fun _ => False) st t
def js_C (A : Nat → Prop) (j : Nat × Nat × Value) (l : Launch) (y : MethodName) (cc : ByteArray) (nL : Nat) (ret : Option FieldType) (rm : Room) (as : List Value) (r : Option Value) : Prop :=
  Met l y (.code y cc nL ret :: gw) rm (va_Pc as (fun U => mk_J A j U)) (js_Q r) 0 0 (fun _ => False)
def js_X (A : Nat → Prop) (j : Nat × Nat × Value) (cc : ByteArray) (nL : Nat) (own : String) (ret : Option FieldType) (p : Program) (s : State) (m : MethodId) (args : Array Value) (meth : Method) (c : Code) : Prop :=
  p.tables.exec = Jvm.exec ∧ c.code = cc ∧ meth.sig.returnType = ret ∧ c.maxLocals = nL ∧ s.vm.findClass own = some m.cls ∧ (∀ x ∈ gw, x.before args s = true) ∧ meth.locks = false ∧ mk_J A j s
def js_V (A : Nat → Prop) (j : Nat × Nat × Value) (l : Launch) (R : Room) (cc : ByteArray) (nL : Nat) (own : String) (ret : Option FieldType) (r : Option Value) (pc : Nat) (lv : List (Option Value)) (st : List Value) : Prop :=
  ∀ (p : Program) (e : Env) (s : State) (m : MethodId) (args : Array Value) (below : List Frame) (meth : Method) (c : Code), js_X A j cc nL own ret p s m args meth c → ∀ (H : Heap) (locs : List Loc) (ls : Array Slot), va_S (fun _ => False) s.heap H locs → fm_has ls nL lv →
    W p l e R s m args below meth c H locs 0 0 (MQ below (js_Q r) args s 0 0 (fun _ => False)) (F0 m pc ls st)
theorem va_S.up {A : Nat → Prop} {H0 H : Heap} {locs : List Loc} (h : va_S (fun _ => False) H0 H locs) : va_S A H0 H locs := ⟨h.1, fun q a _ => h.2.1 q a (fun f => f), fun z hz => (h.2.2 z hz).elim⟩
theorem fm_ent {as : List Value} {nL : Nat} (hc : ∀ v ∈ as, v.category = 1) (hn : as.length ≤ nL) : fm_has (lg_sl as ++ List.replicate (nL - (lg_sl as).length) Slot.unset).toArray nL (as.map some ++ List.replicate (nL - as.length) none) := by
  have hsl : ∀ (vs : List Value), (∀ v ∈ vs, v.category = 1) → (lg_sl vs).length = vs.length := by
    intro vs
    induction vs with
    | nil => intro _; rfl
    | cons v t ih =>
      intro h
      have h1 := h v List.mem_cons_self
      simp only [lg_sl, List.flatMap_cons, List.length_append, List.length_cons] at ih ⊢
      rw [ih (fun u hu => h u (List.mem_cons_of_mem _ hu))]
      simp [h1]; omega
  have hla : ∀ (vs : List Value) (j : Nat), (∀ v ∈ vs, v.category = 1) → ∀ (i : Nat) (v : Value), vs[i]? = some v → (j + i, v) ∈ lv_args j vs := by
    intro vs
    induction vs with
    | nil => intro j _ i v h; simp at h
    | cons u t ih =>
      intro j h i v hi
      have h1 := h u List.mem_cons_self
      cases i with
      | zero => simp at hi; subst hi; simp [lv_args]
      | succ i =>
        simp at hi
        have h2 := ih (j + 1) (fun x hx => h x (List.mem_cons_of_mem _ hx)) i v hi
        simp only [lv_args, h1]
        rw [show j + (i + 1) = j + 1 + i by omega]
        exact List.mem_cons_of_mem _ (by simpa using h2)
  have hl := lv_entry as (n := nL) (by rw [hsl as hc]; exact hn)
  refine ⟨hl.1, hl.2.1, by simp; omega, fun i v hi => ?_⟩
  have hi' : as[i]? = some v := by
    by_cases hq : i < as.length
    · rw [List.getElem?_append_left (by simpa using hq), List.getElem?_map] at hi
      cases hx : as[i]? with
      | none => rw [hx] at hi; cases hi
      | some u => rw [hx] at hi; cases hi; rfl
    · rw [List.getElem?_append_right (by simpa using hq), List.getElem?_replicate] at hi
      split at hi <;> cases hi
  have := hl.2.2 _ (hla as 0 hc i v hi')
  simpa using this
theorem js_call {p : Program} {l : Launch} {e : Env} {R : Room} {s : State} {m : MethodId} {args : Array Value} {below : List Frame} {meth : Method} {c : Code} {H : Heap} {locs : List Loc} {cells slots pc : Nat} {Q : State → Prop} {r : Option Value} {ls : Array Slot} {rest st0 : List Value} {a : Array Value} {H0 : Heap} {A0 : Nat → Prop} (hr : va_Run p l e R s m args below meth c H locs cells slots 0 0 (F0 m pc ls st0) rest (js_Q r a) (fun _ => False)) (hS : va_S A0 H0 H locs)
    (kk : ∀ (H1 : Heap) (locs1 : List Loc), va_S A0 H0 H1 locs1 → (∀ q, q < H.size → H1[q]? = H[q]?) → W p l e R s m args below meth c H1 locs1 cells slots Q (F0 m (pc + 3) ls (r.toList ++ rest))) : W p l e R s m args below meth c H locs cells slots Q (F0 m pc ls st0) := by
  intro T hT X
  obtain ⟨v, st₀, t, T', L, h0, X', hL, e1, e2, ⟨hv, hz, hk⟩, st⟩ := hr T hT X
  cases hv
  rw [h0] at hz hk
  obtain ⟨t2, a1, b1⟩ := kk T'.heap (locs ++ L)
    ⟨Nat.le_trans hS.1 (by rw [e1]; exact hz), fun q h1 h2 => by rw [e1, hk q (Nat.lt_of_lt_of_le h1 hS.1) (fun z => z)]; exact hS.2.1 q h1 h2, fun q hq => by
      rcases List.mem_append.mp hq with h | h
      · exact hS.2.2 q h
      · exact (hL q h).elim⟩ (fun q h1 => by rw [e1]; exact hk q h1 (fun z => z)) T' rfl X'
  exact ⟨t2, st t2 a1, b1⟩
section JSV
variable {A : Nat → Prop} {j : Nat × Nat × Value} {l : Launch} {R : Room} {cc : ByteArray} {nL : Nat} {own : String} {ret : Option FieldType} {r : Option Value} {pc : Nat} {lv : List (Option Value)} {st : List Value}
theorem s_iconst {i : Int} (v : Int32) (hv : Int32.ofInt i = v) (hd : decode cc pc = .ok (.iconst i, 1)) (k : js_V A j l R cc nL own ret r (pc + 1) lv (.int v :: st)) : js_V A j l R cc nL own ret r pc lv st := by
  intro p e s m args below meth c X H locs ls hS h
  exact lv_iconst X.1 X.2.1 hd hv (k p e s m args below meth c X H locs ls hS h)
theorem s_aload_n {q : Fin 4} (i : Nat) {x : Nat} (hi : (q : Nat) = i) (hl : lv[i]? = some (some (.ref x))) (hd : decode cc pc = .ok (.aload_n q, 1)) (k : js_V A j l R cc nL own ret r (pc + 1) lv (.ref x :: st)) : js_V A j l R cc nL own ret r pc lv st := by
  intro p e s m args below meth c X H locs ls hS h
  exact lv_aload_n X.1 X.2.1 hd hi (h.2.2.2 _ _ hl) (k p e s m args below meth c X H locs ls hS h)
theorem s_iload_n {q : Fin 4} (i : Nat) {x : Int32} (hi : (q : Nat) = i) (hl : lv[i]? = some (some (.int x))) (hd : decode cc pc = .ok (.iload_n q, 1)) (k : js_V A j l R cc nL own ret r (pc + 1) lv (.int x :: st)) : js_V A j l R cc nL own ret r pc lv st := by
  intro p e s m args below meth c X H locs ls hS h
  exact lv_iload_n X.1 X.2.1 hd hi (h.2.2.2 _ _ hl) (k p e s m args below meth c X H locs ls hS h)
theorem s_goto {off : Int} (tgt : Nat) (ht : (pc : Int) + off = (tgt : Int)) (hd : decode cc pc = .ok (.goto off, 3)) (k : js_V A j l R cc nL own ret r tgt lv st) : js_V A j l R cc nL own ret r pc lv st := by
  intro p e s m args below meth c X H locs ls hS h
  exact lv_goto X.1 X.2.1 hd ht (k p e s m args below meth c X H locs ls hS h)
theorem s_iand {x y : Int32} (hd : decode cc pc = .ok (.iand, 1)) (k : js_V A j l R cc nL own ret r (pc + 1) lv (.int (x &&& y) :: st)) : js_V A j l R cc nL own ret r pc lv (.int y :: .int x :: st) := by
  intro p e s m args below meth c X H locs ls hS h
  exact lv_iand X.1 X.2.1 hd (k p e s m args below meth c X H locs ls hS h)
theorem s_pop {a : Value} (ha : a.category = 1) (hd : decode cc pc = .ok (.pop, 1)) (k : js_V A j l R cc nL own ret r (pc + 1) lv st) : js_V A j l R cc nL own ret r pc lv (a :: st) := by
  intro p e s m args below meth c X H locs ls hS h
  exact lv_pop X.1 X.2.1 hd ha (k p e s m args below meth c X H locs ls hS h)
theorem s_if_eq {x : Int32} {off : Int} (tgt : Nat) (ht : (pc : Int) + off = (tgt : Int)) (hx : ¬ x = 0) (hd : decode cc pc = .ok (.ifCond .eq off, 3)) (k : js_V A j l R cc nL own ret r (pc + 3) lv st) : js_V A j l R cc nL own ret r pc lv (.int x :: st) := by
  intro p e s m args below meth c X H locs ls hS h
  exact lv_if_eq X.1 X.2.1 hd ht (fun q => absurd q hx) (fun _ => k p e s m args below meth c X H locs ls hS h)
theorem s_if_ne {x : Int32} {off : Int} (tgt : Nat) (ht : (pc : Int) + off = (tgt : Int)) (hx : x = 0) (hd : decode cc pc = .ok (.ifCond .ne off, 3)) (k : js_V A j l R cc nL own ret r (pc + 3) lv st) : js_V A j l R cc nL own ret r pc lv (.int x :: st) := by
  intro p e s m args below meth c X H locs ls hS h
  exact lv_if_ne X.1 X.2.1 hd ht (fun q => absurd hx q) (fun _ => k p e s m args below meth c X H locs ls hS h)
theorem s_if_lt {x : Int32} {off : Int} (tgt : Nat) (ht : (pc : Int) + off = (tgt : Int)) (hx : ¬ x < 0) (hd : decode cc pc = .ok (.ifCond .lt off, 3)) (k : js_V A j l R cc nL own ret r (pc + 3) lv st) : js_V A j l R cc nL own ret r pc lv (.int x :: st) := by
  intro p e s m args below meth c X H locs ls hS h
  exact lv_if_lt X.1 X.2.1 hd ht (fun q => absurd q hx) (fun _ => k p e s m args below meth c X H locs ls hS h)
theorem s_icmp_lt {x y : Int32} {off : Int} (tgt : Nat) (ht : (pc : Int) + off = (tgt : Int)) (hx : x < y) (hd : decode cc pc = .ok (.if_icmp .lt off, 3)) (k : js_V A j l R cc nL own ret r tgt lv st) : js_V A j l R cc nL own ret r pc lv (.int y :: .int x :: st) := by
  intro p e s m args below meth c X H locs ls hS h
  exact lv_icmp_lt X.1 X.2.1 hd ht (fun _ => k p e s m args below meth c X H locs ls hS h) (fun q => absurd hx q)
theorem s_sipush {i : Int} (v : Int32) (hv : (Int16.ofInt i).toInt32 = v) (hd : decode cc pc = .ok (.sipush i, 3)) (k : js_V A j l R cc nL own ret r (pc + 3) lv (.int v :: st)) : js_V A j l R cc nL own ret r pc lv st := by
  intro p e s m args below meth c X H locs ls hS h
  exact lv_sipush X.1 X.2.1 hd hv (k p e s m args below meth c X H locs ls hS h)
theorem s_ishr {x y : Int32} (v : Int32) (hv : x >>> (y &&& 31) = v) (hd : decode cc pc = .ok (.ishr, 1)) (k : js_V A j l R cc nL own ret r (pc + 1) lv (.int v :: st)) : js_V A j l R cc nL own ret r pc lv (.int y :: .int x :: st) := by
  intro p e s m args below meth c X H locs ls hS h
  exact by subst hv; exact lv_ishr X.1 X.2.1 hd (k p e s m args below meth c X H locs ls hS h)
theorem s_i2c {x : Int32} (v : Int32) (hv : (x.toUInt32 % 65536).toInt32 = v) (hd : decode cc pc = .ok (.i2c, 1)) (k : js_V A j l R cc nL own ret r (pc + 1) lv (.int v :: st)) : js_V A j l R cc nL own ret r pc lv (.int x :: st) := by
  intro p e s m args below meth c X H locs ls hS h
  exact lv_i2c X.1 X.2.1 hd hv (k p e s m args below meth c X H locs ls hS h)
theorem s_coder {idx : Nat} (hl : Cond.fieldLink own idx "java/lang/String" "coder" "B" ∈ gw) (hd : decode cc pc = .ok (.getfield idx, 3)) (k : js_V A j l R cc nL own ret r (pc + 3) lv (.int 0 :: st)) : js_V A j l R cc nL own ret r pc lv (.ref j.1 :: st) := by
  intro p e s m args below meth c X H locs ls hS h
  exact vk_getf X.1 X.2.1 X.2.2.2.2.2.2.2.2.2.1 hS.up X.2.2.2.2.1 (X.2.2.2.2.2.1 _ hl) (fun _ h => h) hd (k p e s m args below meth c X H locs ls hS h)
theorem s_value {idx : Nat} (hl : Cond.fieldLink own idx "java/lang/String" "value" "[B" ∈ gw) (hd : decode cc pc = .ok (.getfield idx, 3)) (k : js_V A j l R cc nL own ret r (pc + 3) lv (.ref j.2.1 :: st)) : js_V A j l R cc nL own ret r pc lv (.ref j.1 :: st) := by
  intro p e s m args below meth c X H locs ls hS h
  exact vk_getf X.1 X.2.1 X.2.2.2.2.2.2.2.2.2.2.1 hS.up X.2.2.2.2.1 (X.2.2.2.2.2.1 _ hl) (fun _ h => h) hd (k p e s m args below meth c X H locs ls hS h)
theorem s_compact {idx : Nat} (hl : Cond.fieldLink own idx "java/lang/String" "COMPACT_STRINGS" "Z" ∈ gw) (hd : decode cc pc = .ok (.getstatic idx, 3)) (k : js_V A j l R cc nL own ret r (pc + 3) lv (.int 1 :: st)) : js_V A j l R cc nL own ret r pc lv st := by
  intro p e s m args below meth c X H locs ls hS h
  exact va_gets X.1 X.2.1 X.2.2.2.2.2.2.2.2.2.2.2.2.1 hS.up X.2.2.2.2.1 (X.2.2.2.2.2.1 _ hl) (fun _ h => h) hd (k p e s m args below meth c X H locs ls hS h)
theorem s_form {idx : Nat} (hl : Cond.fieldLink own idx "jdk/internal/util/Preconditions" "SIOOBE_FORMATTER" "Ljava/util/function/BiFunction;" ∈ gw) (hd : decode cc pc = .ok (.getstatic idx, 3)) (k : js_V A j l R cc nL own ret r (pc + 3) lv (j.2.2 :: st)) : js_V A j l R cc nL own ret r pc lv st := by
  intro p e s m args below meth c X H locs ls hS h
  exact va_gets X.1 X.2.1 X.2.2.2.2.2.2.2.2.2.2.2.2.2.1 hS.up X.2.2.2.2.1 (X.2.2.2.2.2.1 _ hl) (fun _ h => h) hd (k p e s m args below meth c X H locs ls hS h)
theorem s_blen  (hd : decode cc pc = .ok (.arraylength, 1)) (k : js_V A j l R cc nL own ret r (pc + 1) lv (.int 43 :: st)) : js_V A j l R cc nL own ret r pc lv (.ref j.2.1 :: st) := by
  intro p e s m args below meth c X H locs ls hS h
  exact va_tlen X.1 X.2.1 X.2.2.2.2.2.2.2.2.2.2.2.1 hS.up (v := 43) rfl hd (k p e s m args below meth c X H locs ls hS h)
theorem s_bald {i : Nat} (hi : i < 43) (hd : decode cc pc = .ok (.baload, 1)) (k : js_V A j l R cc nL own ret r (pc + 1) lv (.int (nI (tF i)) :: st)) : js_V A j l R cc nL own ret r pc lv (.int (nI i) :: .ref j.2.1 :: st) := by
  intro p e s m args below meth c X H locs ls hS h
  exact va_tb X.1 X.2.1 X.2.2.2.2.2.2.2.2.2.2.2.1 hS.up (vp_in_nI hi (by omega)) (by rw [nI_clamp (by omega)]) hd (k p e s m args below meth c X H locs ls hS h)
theorem s_zret {x : Int32} {ty : FieldType} (hr : ret = some ty) (hn : narrow ty (.int x) = .int x) (ho : r = some (.int x)) (hd : decode cc pc = .ok (.ireturn, 1)) : js_V A j l R cc nL own ret r pc lv [.int x] := by
  intro p e s m args below meth c X H locs ls hS h
  subst ho
  have hlocks := X.2.2.2.2.2.2.1
  exact W.zret X.1 X.2.1 (by rw [X.2.2.1, hr]) hn (fun t ht hW => ⟨rfl, hS.F ht⟩) hS.2.2 hd
theorem s_vret (hr : ret = none) (ho : r = none) (hd : decode cc pc = .ok (.return_, 1)) : js_V A j l R cc nL own ret r pc lv [] := by
  intro p e s m args below meth c X H locs ls hS h
  subst ho
  have hlocks := X.2.2.2.2.2.2.1
  exact W.vret X.1 X.2.1 (by rw [X.2.2.1, hr]) (fun t ht hW => ⟨rfl, hS.F ht⟩) hS.2.2 hd
theorem js_of {y : MethodName} {rm : Room} {as : List Value} (hy : plainName y.cls = true) (hc : ∀ v ∈ as, v.category = 1) (hn : as.length ≤ nL) (hV : js_V A j l rm cc nL y.cls ret r 0 (as.map some ++ List.replicate (nL - as.length) none) []) : js_C A j l y cc nL ret rm as r := by
  refine Met.ofW (cc := cc) (maxL := nL) (ret := ret) hy rfl ?_
  intro p e s m args below meth c s₁ B hml hv
  obtain ⟨rfl, hJ⟩ := hv
  have hts := atoms_spec (ws := .code y cc nL ret :: gw) B.pre
  rw [lg_entry_eq]
  exact hV p e s m as.toArray below meth c ⟨B.exec, B.bytes, B.returns, hml, findClass_of_methodNamed B.named, fun x hx => hts x (List.mem_cons_of_mem _ hx), B.notSynchronized, hJ⟩ s.heap [] _ va_S.rf (fm_ent hc hn)
theorem js_blind {as : List Value} : FrameBlind (va_Pc as (fun U => mk_J A j U)) := fun a U g mk h => ⟨h.1, h.2.calling⟩
def js_lw (own : String) (idx : Nat) (y : MethodName) (cc : ByteArray) (nL : Nat) (ret : Option FieldType) (n : Nat) : Prop := fm_lw own idx y cc nL ret n
theorem js_recv {s : State} {H : Heap} {locs : List Loc} (hJ : mk_J A j s) (hS : va_S A s.heap H locs) : ∃ cell : Cell, H[j.1]? = some cell ∧ cell.vm.isStatics = false ∧ s.vm.findClass "java/lang/String" = some cell.cls := by
  obtain ⟨cell, h1, h2, h3, -⟩ := hJ.2.1.kept hS.2.1
  exact ⟨cell, h1, h2, h3⟩
theorem s_callV {idx : Nat} {y : MethodName} {c2 : ByteArray} {nL2 n : Nat} {ret2 : Option FieldType} {rm : Room} (As rest : List Value) {r2 : Option Value} (hcl : y.cls = "java/lang/String") (hL : fm_lw own idx y c2 nL2 ret2 n) (hi : Cond.instanceMethod y ∈ gw) (hse : Cond.selects y.cls y y ∈ gw) (hC : js_C A j l y c2 nL2 ret2 rm (.ref j.1 :: As) r2) (hn : As.length = n) (hst : st = As.reverse ++ .ref j.1 :: rest) (hR : rm.cells = 0 ∧ rm.slots = 0 ∧ rm.frames + 1 ≤ R.frames ∧ 8 + (nL2 + 11) + rm.locals ≤ R.locals) (hW : (rest.map fun v => v.category).sum ≤ 8) (hd : decode cc pc = .ok (.invokevirtual idx, 3)) (k : js_V A j l R cc nL own ret r (pc + 3) lv (r2.toList ++ rest)) : js_V A j l R cc nL own ret r pc lv st := by
  intro p e s m args below meth c X H locs ls hS h
  obtain ⟨w1, w2, w3, w4⟩ := hL
  have hg := X.2.2.2.2.2.1
  have hJ := X.2.2.2.2.2.2.2
  have hCB : CallB R s args own idx y c2 nL2 ret2 (.code y c2 nL2 ret2 :: gw) rm 0 0 n := callB_of (Ts := gw) n hg (gw_good w1 (fun _ h => h)) rfl hR.1 hR.2.1 (hg _ w2) (hg _ w3) w4 hR.2.2
  exact js_call (va_runV (Ts := gw) (C := y.cls) (As := As) (rest := rest) ⟨X.1, X.2.1, X.2.2.2.1, X.2.2.2.2.1, hg⟩ hC ⟨hCB, hg _ hi, hg _ hse⟩ ⟨js_blind, by rw [hcl]; exact js_recv hJ hS.up, fun U hU hW => ⟨rfl, hJ.on hS.up hU hW⟩⟩ rfl hn h.1 hst (lv_room hW) hd ⟨by rw [Nat.zero_add]; exact Nat.zero_le _, by rw [Nat.zero_add]; exact Nat.zero_le _⟩) hS (fun H1 locs1 hS1 _ => k p e s m args below meth c X H1 locs1 ls hS1 h)
theorem s_callS {idx : Nat} {y : MethodName} {c2 : ByteArray} {nL2 n : Nat} {ret2 : Option FieldType} {rm : Room} (As rest : List Value) {r2 : Option Value} (hL : fm_lw own idx y c2 nL2 ret2 n) (hs : Cond.static y ∈ gw) (hC : js_C A j l y c2 nL2 ret2 rm As r2) (hn : As.length = n) (hst : st = As.reverse ++ rest) (hR : rm.cells = 0 ∧ rm.slots = 0 ∧ rm.frames + 1 ≤ R.frames ∧ 8 + (nL2 + 11) + rm.locals ≤ R.locals) (hW : (rest.map fun v => v.category).sum ≤ 8) (hd : decode cc pc = .ok (.invokestatic idx, 3)) (k : js_V A j l R cc nL own ret r (pc + 3) lv (r2.toList ++ rest)) : js_V A j l R cc nL own ret r pc lv st := by
  intro p e s m args below meth c X H locs ls hS h
  obtain ⟨w1, w2, w3, w4⟩ := hL
  have hg := X.2.2.2.2.2.1
  have hJ := X.2.2.2.2.2.2.2
  have hCB : CallB R s args own idx y c2 nL2 ret2 (.code y c2 nL2 ret2 :: gw) rm 0 0 n := callB_of (Ts := gw) n hg (gw_good w1 (fun _ h => h)) rfl hR.1 hR.2.1 (hg _ w2) (hg _ w3) w4 hR.2.2
  exact js_call (va_runS (Ts := gw) (As := As) (rest := rest) ⟨X.1, X.2.1, X.2.2.2.1, X.2.2.2.2.1, hg⟩ hC ⟨hCB, hg _ hs⟩ ⟨js_blind, fun U hU hW => ⟨rfl, hJ.on hS.up hU hW⟩⟩ rfl hn h.1 hst (lv_room hW) hd ⟨by rw [Nat.zero_add]; exact Nat.zero_le _, by rw [Nat.zero_add]; exact Nat.zero_le _⟩) hS (fun H1 locs1 hS1 _ => k p e s m args below meth c X H1 locs1 ls hS1 h)
end JSV
theorem w_RJ0_335 : fm_lw RJ0 335 yJ0_coder_7d493 cJ0_coder_7d493 1 (some .byte) 0 := ⟨(gw_t 242 (by decide +kernel) rfl), (gw_t 10 (by decide +kernel) rfl), (gw_t 239 (by decide +kernel) rfl), by decide +kernel⟩
theorem wi_J0_coder_7d493 : Cond.instanceMethod yJ0_coder_7d493 ∈ gw := (gw_t 240 (by decide +kernel) rfl)
theorem ws_J0_coder_7d493 : Cond.selects yJ0_coder_7d493.cls yJ0_coder_7d493 yJ0_coder_7d493 ∈ gw := (gw_t 241 (by decide +kernel) rfl)
theorem w_RJ0_492 : fm_lw RJ0 492 yJ0_isLatin1_aae02 cJ0_isLatin1_aae02 1 (some .boolean) 0 := ⟨(gw_t 252 (by decide +kernel) rfl), (gw_t 10 (by decide +kernel) rfl), (gw_t 249 (by decide +kernel) rfl), by decide +kernel⟩
theorem wi_J0_isLatin1_aae02 : Cond.instanceMethod yJ0_isLatin1_aae02 ∈ gw := (gw_t 250 (by decide +kernel) rfl)
theorem ws_J0_isLatin1_aae02 : Cond.selects yJ0_isLatin1_aae02.cls yJ0_isLatin1_aae02 yJ0_isLatin1_aae02 ∈ gw := (gw_t 251 (by decide +kernel) rfl)
theorem w_RJ0_495 : fm_lw RJ0 495 yJ1_charAt_3b067 cJ1_charAt_3b067 2 (some .char) 2 := ⟨(gw_t 255 (by decide +kernel) rfl), (gw_t 11 (by decide +kernel) rfl), (gw_t 253 (by decide +kernel) rfl), by decide +kernel⟩
theorem wt_J1_charAt_3b067 : Cond.static yJ1_charAt_3b067 ∈ gw := (gw_t 254 (by decide +kernel) rfl)
theorem w_RJ1_9 : fm_lw RJ1 9 yJ0_checkIndex_df160 cJ0_checkIndex_df160 2 none 2 := ⟨(gw_t 258 (by decide +kernel) rfl), (gw_t 10 (by decide +kernel) rfl), (gw_t 256 (by decide +kernel) rfl), by decide +kernel⟩
theorem wt_J0_checkIndex_df160 : Cond.static yJ0_checkIndex_df160 ∈ gw := (gw_t 257 (by decide +kernel) rfl)
theorem w_RJ0_1059 : fm_lw RJ0 1059 yJ3_checkIndex_8e157 cJ3_checkIndex_8e157 3 (some .int) 3 := ⟨(gw_t 263 (by decide +kernel) rfl), (gw_t 12 (by decide +kernel) rfl), (gw_t 261 (by decide +kernel) rfl), by decide +kernel⟩
theorem wt_J3_checkIndex_8e157 : Cond.static yJ3_checkIndex_8e157 ∈ gw := (gw_t 262 (by decide +kernel) rfl)
theorem w_RX8_72 : fm_lw RX8 72 yJ0_length_8abf5 cJ0_length_8abf5 1 (some .int) 0 := ⟨(gw_t 238 (by decide +kernel) rfl), (gw_t 10 (by decide +kernel) rfl), (gw_t 235 (by decide +kernel) rfl), by decide +kernel⟩
theorem wi_J0_length_8abf5 : Cond.instanceMethod yJ0_length_8abf5 ∈ gw := (gw_t 236 (by decide +kernel) rfl)
theorem ws_J0_length_8abf5 : Cond.selects yJ0_length_8abf5.cls yJ0_length_8abf5 yJ0_length_8abf5 ∈ gw := (gw_t 237 (by decide +kernel) rfl)
theorem w_RX8_78 : fm_lw RX8 78 yJ0_charAt_5068e cJ0_charAt_5068e 2 (some .char) 1 := ⟨(gw_t 248 (by decide +kernel) rfl), (gw_t 10 (by decide +kernel) rfl), (gw_t 245 (by decide +kernel) rfl), by decide +kernel⟩
theorem wi_J0_charAt_5068e : Cond.instanceMethod yJ0_charAt_5068e ∈ gw := (gw_t 246 (by decide +kernel) rfl)
theorem ws_J0_charAt_5068e : Cond.selects yJ0_charAt_5068e.cls yJ0_charAt_5068e yJ0_charAt_5068e ∈ gw := (gw_t 247 (by decide +kernel) rfl)
theorem wf_RJ0_9 : Cond.fieldLink RJ0 9 "java/lang/String" "value" "[B" ∈ gw := (gw_t 1007 (by decide +kernel) rfl)
theorem wf_RJ0_15 : Cond.fieldLink RJ0 15 "java/lang/String" "coder" "B" ∈ gw := (gw_t 1008 (by decide +kernel) rfl)
theorem wf_RJ0_38 : Cond.fieldLink RJ0 38 "java/lang/String" "COMPACT_STRINGS" "Z" ∈ gw := (gw_t 243 (by decide +kernel) rfl)
theorem wf_RJ0_1053 : Cond.fieldLink RJ0 1053 "jdk/internal/util/Preconditions" "SIOOBE_FORMATTER" "Ljava/util/function/BiFunction;" ∈ gw := (gw_t 259 (by decide +kernel) rfl)
section JSM
variable {A : Nat → Prop} {j : Nat × Nat × Value} {l : Launch}
abbrev rm_J (f lo : Nat) : Room := { frames := f, cells := 0, slots := 0, locals := lo }
theorem c_J0_coder : js_C A j l yJ0_coder_7d493 cJ0_coder_7d493 1 (some .byte) (rm_J 0 0) [.ref j.1] (some (.int 0)) :=
  js_of (by decide) (by simp [Value.category]) (by simp)
  (s_compact wf_RJ0_38 dJ0_coder_7d493_0 (s_if_eq 13 (by decide) (by decide) dJ0_coder_7d493_3 (s_aload_n 0 rfl rfl dJ0_coder_7d493_6 (s_coder wf_RJ0_15 dJ0_coder_7d493_7 (s_goto 14 (by decide) dJ0_coder_7d493_10 (s_zret (ty := .byte) rfl (by decide) rfl dJ0_coder_7d493_14))))))
theorem c_J0_length : js_C A j l yJ0_length_8abf5 cJ0_length_8abf5 1 (some .int) (rm_J 1 20) [.ref j.1] (some (.int 43)) :=
  js_of (by decide) (by simp [Value.category]) (by simp)
  (s_aload_n 0 rfl rfl dJ0_length_8abf5_0 (s_value wf_RJ0_9 dJ0_length_8abf5_1 (s_blen dJ0_length_8abf5_4 (s_aload_n 0 rfl rfl dJ0_length_8abf5_5 (s_callV [] [.int 43] rfl w_RJ0_335 wi_J0_coder_7d493 ws_J0_coder_7d493 c_J0_coder rfl rfl ⟨rfl, rfl, by decide, by decide⟩ (by decide) dJ0_length_8abf5_6 (s_ishr 43 (by decide) dJ0_length_8abf5_9 (s_zret (ty := .int) rfl rfl rfl dJ0_length_8abf5_10)))))))
theorem c_J0_isLatin1 : js_C A j l yJ0_isLatin1_aae02 cJ0_isLatin1_aae02 1 (some .boolean) (rm_J 0 0) [.ref j.1] (some (.int 1)) :=
  js_of (by decide) (by simp [Value.category]) (by simp)
  (s_compact wf_RJ0_38 dJ0_isLatin1_aae02_0 (s_if_eq 17 (by decide) (by decide) dJ0_isLatin1_aae02_3 (s_aload_n 0 rfl rfl dJ0_isLatin1_aae02_6 (s_coder wf_RJ0_15 dJ0_isLatin1_aae02_7 (s_if_ne 17 (by decide) rfl dJ0_isLatin1_aae02_10 (s_iconst 1 rfl dJ0_isLatin1_aae02_13 (s_goto 18 (by decide) dJ0_isLatin1_aae02_14 (s_zret (ty := .boolean) rfl (by decide) rfl dJ0_isLatin1_aae02_18))))))))
theorem c_J3_checkIndex {i : Nat} {f : Value} (hf : f.category = 1) (hi : i < 43) : js_C A j l yJ3_checkIndex_8e157 cJ3_checkIndex_8e157 3 (some .int) (rm_J 0 0) [.int (nI i), .int 43, f] (some (.int (nI i))) :=
  js_of (by decide) (by simp [Value.category]; exact hf) (by simp)
  (s_iload_n 0 rfl rfl dJ3_checkIndex_8e157_0 (s_if_lt 9 (by decide) (nI_pos (by omega)) dJ3_checkIndex_8e157_1 (s_iload_n 0 rfl rfl dJ3_checkIndex_8e157_4 (s_iload_n 1 rfl rfl dJ3_checkIndex_8e157_5 (s_icmp_lt 16 (by decide) (nI_lt (b := 43) hi (by omega)) dJ3_checkIndex_8e157_6 (s_iload_n 0 rfl rfl dJ3_checkIndex_8e157_16 (s_zret (ty := .int) rfl rfl rfl dJ3_checkIndex_8e157_17)))))))
theorem c_J0_checkIndex {i : Nat} (hf : j.2.2.category = 1) (hi : i < 43) : js_C A j l yJ0_checkIndex_df160 cJ0_checkIndex_df160 2 none (rm_J 1 22) [.int (nI i), .int 43] none :=
  js_of (by decide) (by simp [Value.category]) (by simp)
  (s_iload_n 0 rfl rfl dJ0_checkIndex_df160_0 (s_iload_n 1 rfl rfl dJ0_checkIndex_df160_1 (s_form wf_RJ0_1053 dJ0_checkIndex_df160_2 (s_callS [.int (nI i), .int 43, j.2.2] [] w_RJ0_1059 wt_J3_checkIndex_8e157 (c_J3_checkIndex hf hi) rfl rfl ⟨rfl, rfl, by decide, by decide⟩ (by decide) dJ0_checkIndex_df160_5 (s_pop (a := .int (nI i)) rfl dJ0_checkIndex_df160_8 (s_vret rfl rfl dJ0_checkIndex_df160_9))))))
theorem tF_ch {i : Nat} (hi : i < 43) : nI (tF i) &&& 255 = nI (tF i) ∧ ((nI (tF i)).toUInt32 % 65536).toInt32 = nI (tF i) ∧ narrow .char (.int (nI (tF i))) = .int (nI (tF i)) := by
  have h := (show ∀ i, i < 43 → (nI (tF i) &&& 255 = nI (tF i) ∧ ((nI (tF i)).toUInt32 % 65536).toInt32 = nI (tF i)) by decide +kernel) i hi
  exact ⟨h.1, h.2, (pk_charN ((show ∀ i, i < 43 → tF i < 65536 by decide) i hi)).1⟩
theorem c_J1_charAt {i : Nat} (hf : j.2.2.category = 1) (hi : i < 43) : js_C A j l yJ1_charAt_3b067 cJ1_charAt_3b067 2 (some .char) (rm_J 2 43) [.ref j.2.1, .int (nI i)] (some (.int (nI (tF i)))) :=
  js_of (by decide) (by simp [Value.category]) (by simp)
  (s_iload_n 1 rfl rfl dJ1_charAt_3b067_0 (s_aload_n 0 rfl rfl dJ1_charAt_3b067_1 (s_blen dJ1_charAt_3b067_2 (s_callS [.int (nI i), .int 43] [] w_RJ1_9 wt_J0_checkIndex_df160 (c_J0_checkIndex hf hi) rfl rfl ⟨rfl, rfl, by decide, by decide⟩ (by decide) dJ1_charAt_3b067_3 (s_aload_n 0 rfl rfl dJ1_charAt_3b067_6 (s_iload_n 1 rfl rfl dJ1_charAt_3b067_7 (s_bald hi dJ1_charAt_3b067_8 (s_sipush 255 (by decide) dJ1_charAt_3b067_9 (s_iand dJ1_charAt_3b067_12 (s_i2c (nI (tF i)) (by rw [(tF_ch hi).1]; exact (tF_ch hi).2.1) dJ1_charAt_3b067_13 (s_zret (ty := .char) rfl (tF_ch hi).2.2 rfl dJ1_charAt_3b067_14)))))))))))
theorem c_J0_charAt {i : Nat} (hf : j.2.2.category = 1) (hi : i < 43) : js_C A j l yJ0_charAt_5068e cJ0_charAt_5068e 2 (some .char) (rm_J 3 64) [.ref j.1, .int (nI i)] (some (.int (nI (tF i)))) :=
  js_of (by decide) (by simp [Value.category]) (by simp)
  (s_aload_n 0 rfl rfl dJ0_charAt_5068e_0 (s_callV [] [] rfl w_RJ0_492 wi_J0_isLatin1_aae02 ws_J0_isLatin1_aae02 c_J0_isLatin1 rfl rfl ⟨rfl, rfl, by decide, by decide⟩ (by decide) dJ0_charAt_5068e_1 (s_if_eq 16 (by decide) (by decide) dJ0_charAt_5068e_4 (s_aload_n 0 rfl rfl dJ0_charAt_5068e_7 (s_value wf_RJ0_9 dJ0_charAt_5068e_8 (s_iload_n 1 rfl rfl dJ0_charAt_5068e_11 (s_callS [.ref j.2.1, .int (nI i)] [] w_RJ0_495 wt_J1_charAt_3b067 (c_J1_charAt hf hi) rfl rfl ⟨rfl, rfl, by decide, by decide⟩ (by decide) dJ0_charAt_5068e_12 (s_zret (ty := .char) rfl (tF_ch hi).2.2 rfl dJ0_charAt_5068e_15))))))))
end JSM
section JSF
variable {w : fm_W} {lay : Nat → fm_L} {τ : fm_M} {b0 N : Nat} {l : Launch} {R : Room} {cc : ByteArray} {nL : Nat} {Qa : Array Value → State → Outcome → State → Prop} {mc ms cells slots : Nat} {pc : Nat} {lv : List (Option Value)} {st : List Value}
theorem fm_P.same {H H1 : Heap} (h : fm_P w lay N τ H) (hq : ∀ q, q < H.size → H1[q]? = H[q]?) : fm_P w lay N τ H1 := ⟨h.1.kept (fun i q hi => hq q.1 ((h.1 i q hi).lt)), h.2⟩
theorem n_strlen (hR : 2 ≤ R.frames ∧ 40 ≤ R.locals) (hcs : cells ≤ R.cells ∧ slots ≤ R.slots) (hst : (st.map fun v => v.category).sum ≤ 8) (hd : decode cc pc = .ok (.ldc 70, 2)) (hd2 : decode cc (pc + 2) = .ok (.invokevirtual 72, 3)) (k : mk_F w lay b0 N l R cc nL RX8 Qa mc ms cells slots τ (pc + 5) lv (.int 43 :: st)) : mk_F w lay b0 N l R cc nL RX8 Qa mc ms cells slots τ pc lv st := by
  intro p e s m args below meth c X hz0 H locs ls hP hS h
  obtain ⟨j, hJ⟩ := X.2.2.2.2.2.2.2.1.2.2.2.2.2
  have hg := X.2.2.2.2.2.1
  refine va_ldcS X.1 X.2.1 X.2.2.2.2.1 hJ.1 hd ?_
  obtain ⟨w1, w2, w3, w4⟩ := w_RX8_72
  have hCB : CallB R s args RX8 72 yJ0_length_8abf5 cJ0_length_8abf5 1 (some .int) (.code yJ0_length_8abf5 cJ0_length_8abf5 1 (some .int) :: gw) (rm_J 1 20) 0 0 0 := callB_of (Ts := gw) 0 hg (gw_good w1 (fun _ h => h)) rfl rfl rfl (hg _ w2) (hg _ w3) w4 ⟨hR.1, hR.2⟩
  refine js_call (va_runV (Ts := gw) (C := yJ0_length_8abf5.cls) (As := []) (rest := st) ⟨X.1, X.2.1, X.2.2.2.1, X.2.2.2.2.1, hg⟩ (c_J0_length (A := mk_A b0) (j := j)) ⟨hCB, hg _ wi_J0_length_8abf5, hg _ ws_J0_length_8abf5⟩ ⟨js_blind, js_recv hJ hS, fun U hU hW => ⟨rfl, hJ.on hS hU hW⟩⟩ rfl rfl h.1 rfl (lv_room hst) hd2 hcs) hS (fun H1 locs1 hS1 hq => ?_)
  exact k p e s m args below meth c X hz0 H1 locs1 ls (hP.same hq) hS1 h
theorem n_strchr {i : Nat} (hi : i < 43) (hlv : lv[1]? = some (some (.int (nI i)))) (hR : 4 ≤ R.frames ∧ 85 ≤ R.locals) (hcs : cells ≤ R.cells ∧ slots ≤ R.slots) (hst : (st.map fun v => v.category).sum ≤ 8) (hd : decode cc pc = .ok (.ldc 70, 2)) (hd1 : decode cc (pc + 2) = .ok (.iload_n 1, 1)) (hd2 : decode cc (pc + 2 + 1) = .ok (.invokevirtual 78, 3)) (k : mk_F w lay b0 N l R cc nL RX8 Qa mc ms cells slots τ (pc + 6) lv (.int (nI (tF i)) :: st)) : mk_F w lay b0 N l R cc nL RX8 Qa mc ms cells slots τ pc lv st := by
  intro p e s m args below meth c X hz0 H locs ls hP hS h
  obtain ⟨j, hJ⟩ := X.2.2.2.2.2.2.2.1.2.2.2.2.2
  have hg := X.2.2.2.2.2.1
  refine va_ldcS X.1 X.2.1 X.2.2.2.2.1 hJ.1 hd ?_
  refine lv_iload_n X.1 X.2.1 hd1 rfl (h.2.2.2 _ _ hlv) ?_
  obtain ⟨w1, w2, w3, w4⟩ := w_RX8_78
  have hCB : CallB R s args RX8 78 yJ0_charAt_5068e cJ0_charAt_5068e 2 (some .char) (.code yJ0_charAt_5068e cJ0_charAt_5068e 2 (some .char) :: gw) (rm_J 3 64) 0 0 1 := callB_of (Ts := gw) 1 hg (gw_good w1 (fun _ h => h)) rfl rfl rfl (hg _ w2) (hg _ w3) w4 ⟨hR.1, hR.2⟩
  refine js_call (va_runV (Ts := gw) (C := yJ0_charAt_5068e.cls) (As := [.int (nI i)]) (rest := st) ⟨X.1, X.2.1, X.2.2.2.1, X.2.2.2.2.1, hg⟩ (c_J0_charAt (A := mk_A b0) (j := j) hJ.2.2.2.2.2.2.2 hi) ⟨hCB, hg _ wi_J0_charAt_5068e, hg _ ws_J0_charAt_5068e⟩ ⟨js_blind, js_recv hJ hS, fun U hU hW => ⟨rfl, hJ.on hS hU hW⟩⟩ rfl rfl h.1 rfl (lv_room hst) hd2 hcs) hS (fun H1 locs1 hS1 hq => ?_)
  exact k p e s m args below meth c X hz0 H1 locs1 ls (hP.same hq) hS1 h
end JSF
