/-! THE MAKING: a world that grows; cell c stands at b0 + c -/
def mk_W (w : fm_W) (lay : Nat → fm_L) (σ : fm_M) (n : Nat) (op : Nat → Option va_E) : va_W := (List.range n).map (fun c => (fm_ad w c, (op c).getD (fm_ce w lay σ c)))
theorem mk_W_get {w : fm_W} {lay : Nat → fm_L} {σ : fm_M} {n c : Nat} {op : Nat → Option va_E} (h : c < n) : (mk_W w lay σ n op)[c]? = some (fm_ad w c, (op c).getD (fm_ce w lay σ c)) := by
  simp [mk_W, h]
theorem mk_W_len {w : fm_W} {lay : Nat → fm_L} {σ : fm_M} {n : Nat} {op : Nat → Option va_E} : (mk_W w lay σ n op).length = n := by simp [mk_W]
theorem mk_W_s {w : fm_W} {lay : Nat → fm_L} {σ : fm_M} {n : Nat} {op : Nat → Option va_E} : mk_W w lay σ (n + 1) op = mk_W w lay σ n op ++ [(fm_ad w n, (op n).getD (fm_ce w lay σ n))] := by
  simp [mk_W, List.range_succ]
def mk_op (op : Nat → Option va_E) (c : Nat) (e : Option va_E) : Nat → Option va_E := fun c' => if c' = c then e else op c'
theorem mk_W_cg {w : fm_W} {lay : Nat → fm_L} {σ : fm_M} {n : Nat} {op op' : Nat → Option va_E} (h : ∀ c, c < n → (op c).getD (fm_ce w lay σ c) = (op' c).getD (fm_ce w lay σ c)) : mk_W w lay σ n op = mk_W w lay σ n op' := by
  unfold mk_W
  refine List.map_congr_left (fun c hc => ?_)
  rw [h c (List.mem_range.mp hc)]
theorem mk_W_set {w : fm_W} {lay : Nat → fm_L} {σ : fm_M} {n c : Nat} {op : Nat → Option va_E} {e : va_E} (h : c < n) : (mk_W w lay σ n op).set c (fm_ad w c, e) = mk_W w lay σ n (mk_op op c (some e)) := by
  apply List.ext_getElem?
  intro i
  by_cases q : i = c
  · subst q
    rw [List.getElem?_set_self (by rw [mk_W_len]; exact h), mk_W_get h]
    simp [mk_op]
  · rw [List.getElem?_set_ne (Ne.symm q)]
    by_cases hi : i < n
    · rw [mk_W_get hi, mk_W_get hi]
      simp [mk_op, q]
    · simp [mk_W, hi]
def mk_A (b0 : Nat) : Nat → Prop := fun q => b0 ≤ q
/-- the cells of a system stand one behind another -/
def mk_B (w : fm_W) (b0 N : Nat) : Prop := N ≤ 1000 ∧ ∀ c, c < N → fm_ad w c = b0 + c
def mk_P (w : fm_W) (lay : Nat → fm_L) (σ : fm_M) (b0 n : Nat) (op : Nat → Option va_E) (H : Heap) : Prop := va_P w.1 vwCl (mk_W w lay σ n op) H ∧ 1 ≤ n
theorem mk_D {w : fm_W} {b0 N : Nat} (hB : mk_B w b0 N) {lay : Nat → fm_L} {σ : fm_M} {n : Nat} {op : Nat → Option va_E} (hn : n ≤ N) : va_D (mk_A b0) (mk_W w lay σ n op) := by
  have key : ∀ i q, (mk_W w lay σ n op)[i]? = some q → i < n ∧ q.1 = b0 + i := by
    intro i q h
    have hi : i < n := by
      have := (List.getElem?_eq_some_iff.mp h).1
      rwa [mk_W_len] at this
    rw [mk_W_get hi] at h
    cases h
    exact ⟨hi, hB.2 i (by omega)⟩
  refine ⟨fun i j p q hi hj e => ?_, fun k q hk => ?_⟩
  · have h1 := key i p hi
    have h2 := key j q hj
    omega
  · have h1 := key k q hk
    show b0 ≤ q.1
    omega
/-- what the Statement gives of the text FIRST_TEXT and of what String's own methods read: j = (its cell, its bytes' cell, a static that is handed on) -/
def mk_J (A : Nat → Prop) (j : Nat × Nat × Value) (U : State) : Prop := vk_R "SnowSuits" 70 "c0,4;c1,5;c2,3;c3,4;c0,6;c1,3;w2;h5;g3;l40;" j.1 U ∧ va_O "java/lang/String" j.1 A U U.heap ∧ va_OF "java/lang/String" "coder" "B" (.int 0) j.1 A U U.heap ∧ va_OF "java/lang/String" "value" "[B" (.ref j.2.1) j.1 A U U.heap ∧ va_T .byte j.2.1 43 (fun k => .int (nI (tF k))) A U U.heap ∧ va_Z "java/lang/String" "COMPACT_STRINGS" "Z" (.int 1) A U U.heap ∧ va_Z "jdk/internal/util/Preconditions" "SIOOBE_FORMATTER" "Ljava/util/function/BiFunction;" j.2.2 A U U.heap ∧ j.2.2.category = 1
def mk_K (w : fm_W) (b0 : Nat) (U : State) : Prop := va_K w.1 vwCl (fm_ty w) U ∧ (∀ x ∈ fm_nest, va_Nw x U) ∧ va_Z "SnowSuits" "BY_NUMBER" "[I" (.ref (fm_ad w 1000)) (mk_A b0) U U.heap ∧ va_T .int (fm_ad w 1000) 6 (fun j => .int (nI j)) (mk_A b0) U U.heap ∧ va_AO "SnowSuits$Hall" U ∧ ∃ j, mk_J (mk_A b0) j U
theorem mk_J.on {A : Nat → Prop} {j : Nat × Nat × Value} {s U : State} {H : Heap} {locs : List Loc} (h : mk_J A j s) (hS : va_S A s.heap H locs) (hU : U.heap = H) (hW : s.WarmedH U.vm) : mk_J A j U := by
  obtain ⟨h1, h2, h3, h4, h5, h6, h7, h8⟩ := h
  refine ⟨h1.warm hW, ?_, ?_, ?_, ?_, ?_, ?_, h8⟩
  · rw [hU]; exact (va_O.moved hW.alike h2).kept (fun a h h' => hS.2.1 a h h')
  · rw [hU]; exact (va_OF.moved hW.alike h3).kept (fun a h h' => hS.2.1 a h h')
  · rw [hU]; exact (va_OF.moved hW.alike h4).kept (fun a h h' => hS.2.1 a h h')
  · rw [hU]; exact (va_T.moved hW.alike h5).kept (fun a h h' => hS.2.1 a h h')
  · rw [hU]; exact (h6.moved hW.alike).kept (fun a h h' => hS.2.1 a h h')
  · rw [hU]; exact (h7.moved hW.alike).kept (fun a h h' => hS.2.1 a h h')
theorem mk_J.calling {A : Nat → Prop} {j : Nat × Nat × Value} {U : State} {g : JFrame} {mk : MethodId} {a : Array Value} (h : mk_J A j U) : mk_J A j (U.calling g mk a) := by
  obtain ⟨h1, h2, h3, h4, h5, h6, h7, h8⟩ := h
  have al : U.vm.Alike (U.calling g mk a).vm := Vm.Alike.refl U.vm
  exact ⟨vk_R.same (u := U) (U := U.calling g mk a) rfl h1, va_O.moved al h2, va_OF.moved al h3, va_OF.moved al h4, va_T.moved al h5, h6.moved al, h7.moved al, h8⟩
def mk_X (w : fm_W) (b0 N : Nat) (cc : ByteArray) (nL : Nat) (own : String) (p : Program) (s : State) (m : MethodId) (args : Array Value) (meth : Method) (c : Code) : Prop :=
  p.tables.exec = Jvm.exec ∧ c.code = cc ∧ meth.sig.returnType = none ∧ c.maxLocals = nL ∧ s.vm.findClass own = some m.cls ∧ (∀ x ∈ gw, x.before args s = true) ∧ meth.locks = false ∧ mk_K w b0 s ∧ mk_B w b0 N ∧ meth.name = "<init>"
def mk_Q (w : fm_W) (lay : Nat → fm_L) (σ : fm_M) (b0 n : Nat) (op : Nat → Option va_E) : Array Value → State → Outcome → State → Prop := va_Qv (S := Unit) (fun _ => True) (fun _ t => mk_P w lay σ b0 n op t.heap) (mk_A b0)
/-- in a constructor: n cells stand, op of them open; it ends with n' and op' -/
def mk_V (w : fm_W) (lay : Nat → fm_L) (σ : fm_M) (b0 N : Nat) (l : Launch) (R : Room) (cc : ByteArray) (nL : Nat) (own : String) (Qa : Array Value → State → Outcome → State → Prop) (mc ms n cells slots : Nat) (op : Nat → Option va_E) (pc : Nat) (lv : List (Option Value)) (st : List Value) : Prop :=
  ∀ (p : Program) (e : Env) (s : State) (m : MethodId) (args : Array Value) (below : List Frame) (meth : Method) (c : Code), mk_X w b0 N cc nL own p s m args meth c → s.heap.size + cells = b0 + n → ∀ (H : Heap) (locs : List Loc) (ls : Array Slot), mk_P w lay σ b0 n op H → va_S (mk_A b0) s.heap H locs → fm_has ls nL lv →
    W p l e R s m args below meth c H locs cells slots (MQ below Qa args s mc ms (mk_A b0)) (F0 m pc ls st)
section MKR
theorem mk_size {p : Program} {l : Launch} {e : Env} {R : Room} {s : State} {m : MethodId} {args : Array Value} {below : List Frame} {meth : Method} {c : Code} {H : Heap} {locs : List Loc} {cells slots b0 n N : Nat} {Q : State → Prop} {g : JFrame} {w : fm_W} {lay : Nat → fm_L} {σ : fm_M} {op : Nat → Option va_E} (hz0 : s.heap.size + cells = b0 + n) (hB : mk_B w b0 N) (hn : n ≤ N) (hP : mk_P w lay σ b0 n op H) (k : H.size = b0 + n → W p l e R s m args below meth c H locs cells slots Q g) : W p l e R s m args below meth c H locs cells slots Q g := by
  intro T hT X
  have h1 := X.same.2.2.1
  have h2 : T.heap = H := by first | exact hT.1 | exact hT.2 | exact hT.2.1 | exact hT
  have h3 : (T.setVm s.vm).heap.size = H.size := by rw [← h2]; rfl
  have h4 := (hP.1 (n - 1) _ (mk_W_get (by have := hP.2; omega))).lt
  have h5 : fm_ad w (n - 1) < H.size := h4
  rw [hB.2 (n - 1) (by have := hP.2; omega)] at h5
  exact k (by have := hP.2; omega) T hT X
variable {w : fm_W} {lay : Nat → fm_L} {σ : fm_M} {b0 N : Nat} {l : Launch} {R : Room} {cc : ByteArray} {nL : Nat} {own : String} {Qa : Array Value → State → Outcome → State → Prop} {mc ms n cells slots : Nat} {op : Nat → Option va_E} {pc : Nat} {lv lv' : List (Option Value)} {st : List Value}
theorem k_iconst {i : Int} (v : Int32) (hd : decode cc pc = .ok (.iconst i, 1)) (hv : Int32.ofInt i = v) (k : mk_V w lay σ b0 N l R cc nL own Qa mc ms n cells slots op (pc + 1) lv (.int v :: st)) : mk_V w lay σ b0 N l R cc nL own Qa mc ms n cells slots op pc lv st := by
  intro p e s m args below meth c X hz0 H locs ls hP hS hl
  exact lv_iconst X.1 X.2.1 hd hv (k p e s m args below meth c X hz0 H locs ls hP hS hl)
theorem k_bipush {i : Int} (v : Int32) (hd : decode cc pc = .ok (.bipush i, 2)) (hv : (Int8.ofInt i).toInt32 = v) (k : mk_V w lay σ b0 N l R cc nL own Qa mc ms n cells slots op (pc + 2) lv (.int v :: st)) : mk_V w lay σ b0 N l R cc nL own Qa mc ms n cells slots op pc lv st := by
  intro p e s m args below meth c X hz0 H locs ls hP hS hl
  exact lv_bipush X.1 X.2.1 hd hv (k p e s m args below meth c X hz0 H locs ls hP hS hl)
theorem k_aload_n {q : Fin 4} (i : Nat) {x : Nat} (hd : decode cc pc = .ok (.aload_n q, 1)) (hi : (q : Nat) = i) (hl : lv[i]? = some (some (.ref x))) (k : mk_V w lay σ b0 N l R cc nL own Qa mc ms n cells slots op (pc + 1) lv (.ref x :: st)) : mk_V w lay σ b0 N l R cc nL own Qa mc ms n cells slots op pc lv st := by
  intro p e s m args below meth c X hz0 H locs ls hP hS h
  exact lv_aload_n X.1 X.2.1 hd hi (h.2.2.2 _ _ hl) (k p e s m args below meth c X hz0 H locs ls hP hS h)
theorem k_vret (hc : cells ≤ mc) (hs : slots ≤ ms) (hd : decode cc pc = .ok (.return_, 1)) : mk_V w lay σ b0 N l R cc nL own (mk_Q w lay σ b0 n op) mc ms n cells slots op pc lv [] := by
  intro p e s m args below meth c X hz0 H locs ls hP hS h
  have hlocks := X.2.2.2.2.2.2.1
  refine W.widen (k := mc) (n := ms) hc hs ?_
  exact W.vret X.1 X.2.1 X.2.2.1 (fun t ht hW => ⟨⟨(), rfl, trivial, by dsimp only; rw [ht]; exact hP⟩, hS.F ht⟩) hS.2.2 hd
theorem k_newa {atype : ArrayType} {ty : FieldType} {kt M : Nat} {x : Int32} (hty : newarray.typeOf atype = ty) (hk3 : ¬ kt = 3) (ht : ∀ w : fm_W, (fm_ty w)[kt]? = some (w.2.1 kt, ty)) (hw : Cond.arrayClass (newarray.typeOf atype) ∈ gw) (hdef : defaultValue ty = .int 0) (hno : ∀ C, ¬ ty = .object C) (hlay : lay n = .inl (kt, M)) (hz : σ n = fun _ => 0) (hop : op n = none) (hnN : n < N) (hx : ¬ x < 0) (hM : x.toNatClampNeg = M) (hbytes : M * componentBytes (newarray.typeOf atype) ≤ 536870912) (hcells : cells + 1 ≤ R.cells) (hslots : slots + M ≤ R.slots)
    (hd : decode cc pc = .ok (.newarray atype, 2)) (k : mk_V w lay σ b0 N l R cc nL own Qa mc ms (n + 1) (cells + 1) (slots + M) op (pc + 2) lv (.ref (fm_ad w n) :: st)) : mk_V w lay σ b0 N l R cc nL own Qa mc ms n cells slots op pc lv (.int x :: st) := by
  intro p e s m args below meth c X hz0 H locs ls hP hS h
  have hB := X.2.2.2.2.2.2.2.2.1
  have hK := X.2.2.2.2.2.2.2.1
  refine mk_size hz0 hB (Nat.le_of_lt hnN) hP (fun hsz => ?_)
  refine va_newaK X.1 X.2.1 (X.2.2.2.2.2.1 _ hw) rfl hd rfl hx hM hbytes hcells hslots rfl fun H1 cA e1 z1 o1 hAr hNm => ?_
  have hcA : cA = w.2.1 kt := by
    have h1 := (hK.1.2 kt _ (ht w)).2
    rw [hty] at hNm
    have h2 : s.vm.findClass ("[" ++ ty.toString) = some (w.2.1 kt) := by
      unfold va_RA at h1
      split at h1
      · rename_i C hC; exact absurd hC (hno C)
      · exact h1
    rw [hNm] at h2
    exact Option.some.inj h2
  have had : fm_ad w n = H.size := by rw [hB.2 n hnN, hsz]
  have hk : ∀ (i : Nat) (q : Nat × va_E), (mk_W w lay σ n op)[i]? = some q → H1[q.1]? = H[q.1]? := fun i q hq => o1 q.1 ((hP.1 i q hq).lt)
  rw [← had]
  refine k p e s m args below meth c X (by omega) H1 locs ls ⟨?_, by omega⟩ ⟨Nat.le_trans hS.1 (by omega), fun q h1 h2 => (o1 q (Nat.lt_of_lt_of_le h1 hS.1)).trans (hS.2.1 q h1 h2), hS.2.2⟩ h
  rw [mk_W_s]
  refine (hP.1.kept hk).app (fun i q hq => ?_)
  have hz0 : i < 1 := (List.getElem?_eq_some_iff.mp hq).1
  rw [show i = 0 by omega] at hq
  cases hq
  rw [hop, Option.getD_none, fm_ce_arr hlay hk3, hz]
  show H1[fm_ad w n]? = some (vp_cell (w.2.1 kt) (M, .inl fun _ => 0))
  rw [had, e1, hcA, hty, hdef]
  rfl
theorem k_dup {a : Value} (hd : decode cc pc = .ok (.dup, 1)) (ha : a.category = 1) (k : mk_V w lay σ b0 N l R cc nL own Qa mc ms n cells slots op (pc + 1) lv (a :: a :: st)) : mk_V w lay σ b0 N l R cc nL own Qa mc ms n cells slots op pc lv (a :: st) := by
  intro p e s m args below meth c X hz0 H locs ls hP hS h
  exact lv_dup X.1 X.2.1 hd ha (k p e s m args below meth c X hz0 H locs ls hP hS h)
theorem k_new {ci M idx : Nat} {C : String} {T : u_T} {ty0 : Nat → FieldType} {fs : List Value} (hc : vwCl[ci]? = some (C, T, M)) (hu : ∀ x ∈ u_ws C T M, x ∈ gw) (hty : ∀ k, k < M → parseFieldDescriptor (T k).2.2.1 = some (ty0 k)) (hcl : Cond.classLink own idx C ∈ gw) (hinst : Cond.instantiable C M ∈ gw) (hini : Cond.initialized C ∈ gw) (hfs : ∀ j, j < M → defaultValue (ty0 j) = vp_V fs j) (hnN : n < N) (hcells : cells + 1 ≤ R.cells) (hslots : slots + M ≤ R.slots)
    (hd : decode cc pc = .ok (.new idx, 3)) (k : mk_V w lay σ b0 N l R cc nL own Qa mc ms (n + 1) (cells + 1) (slots + M) (mk_op op n (some (.inr (ci, fs)))) (pc + 3) lv (.ref (fm_ad w n) :: st)) : mk_V w lay σ b0 N l R cc nL own Qa mc ms n cells slots op pc lv st := by
  intro p e s m args below meth c X hz0 H locs ls hP hS h
  have hB := X.2.2.2.2.2.2.2.2.1
  have hK := X.2.2.2.2.2.2.2.1
  have hts := X.2.2.2.2.2.1
  have hKn := hK.1.1 ci _ hc
  refine mk_size hz0 hB (Nat.le_of_lt hnN) hP (fun hsz => ?_)
  refine W.newcK X.1 X.2.1 X.2.2.2.2.1 (hts _ hcl) (hts _ hinst) (hts _ hini) rfl hd hcells hslots hKn.2.1 rfl fun H1 kC hkC e1 z1 o1 => ?_
  have had : fm_ad w n = H.size := by rw [hB.2 n hnN, hsz]
  have hk : ∀ (i : Nat) (q : Nat × va_E), (mk_W w lay σ n op)[i]? = some q → H1[q.1]? = H[q.1]? := fun i q hq => o1 q.1 ((hP.1 i q hq).lt)
  refine W.eq (g2 := F0 m (pc + 3) ls (.ref (fm_ad w n) :: st)) (by rw [had]) ?_
  refine k p e s m args below meth c X (by omega) H1 locs ls ⟨?_, by omega⟩ ⟨Nat.le_trans hS.1 (by omega), fun q h1 h2 => (o1 q (Nat.lt_of_lt_of_le h1 hS.1)).trans (hS.2.1 q h1 h2), hS.2.2⟩ h
  rw [mk_W_s, mk_W_cg (op' := op) (fun c hc => by simp [mk_op, Nat.ne_of_lt hc])]
  refine (hP.1.kept hk).app (fun i q hq => ?_)
  have hz0 : i < 1 := (List.getElem?_eq_some_iff.mp hq).1
  rw [show i = 0 by omega] at hq
  cases hq
  rw [show mk_op op n (some (.inr (ci, fs))) n = some (.inr (ci, fs)) by simp [mk_op], Option.getD_some, had]
  exact ⟨_, hc, (u_born ty0 hts hu hKn hkC e1 hty).to hfs⟩
theorem k_putF {a ci kf M idx : Nat} {C : String} {T : u_T} {ty0 : Nat → FieldType} {fs : List Value} {ty : FieldType} {v : Value} (hc : vwCl[ci]? = some (C, T, M)) (hu : ∀ x ∈ u_ws C T M, x ∈ gw) (hty : ∀ k, k < M → parseFieldDescriptor (T k).2.2.1 = some (ty0 k)) (hnm : ∀ a, a < M → ∀ b, b < M → a ≠ b → (T a).2.1 ≠ (T b).2.1) (hkf : kf < M) (hlink : Cond.fieldLink own idx (T kf).1 (T kf).2.1 (T kf).2.2.1 ∈ gw) (hfin : (T kf).2.2.2 = true) (hown : (T kf).1 = own) (hd1 : parseFieldDescriptor (T kf).2.2.1 = some ty) (hv : narrow ty v = v) (hfit : fits ty v = true) (hlen : kf < fs.length) (haN : a < n) (hnN : n ≤ N) (hop : op a = some (.inr (ci, fs)))
    (hd : decode cc pc = .ok (.putfield idx, 3)) (k : mk_V w lay σ b0 N l R cc nL own Qa mc ms n cells slots (mk_op op a (some (.inr (ci, fs.set kf v)))) (pc + 3) lv st) : mk_V w lay σ b0 N l R cc nL own Qa mc ms n cells slots op pc lv (v :: .ref (fm_ad w a) :: st) := by
  intro p e s m args below meth c X hz0 H locs ls hP hS h
  have hB := X.2.2.2.2.2.2.2.2.1
  have hK := X.2.2.2.2.2.2.2.1
  have hts := X.2.2.2.2.2.1
  have he : (mk_W w lay σ n op)[a]? = some (fm_ad w a, .inr (ci, fs)) := by rw [mk_W_get haN, hop]; rfl
  refine va_putF X.1 X.2.1 hts hu ty0 hty hnm X.2.2.2.2.1 hK.1 hP.1 (mk_D hB hnN) hS a he hc kf hkf (hts _ hlink) (fun _ h9 => h9) hfin X.2.2.2.2.2.2.2.2.2 hown hd1 hv hfit hlen hd (fun H1 locs1 hP1 _ hS1 => ?_)
  refine k p e s m args below meth c X hz0 H1 locs1 ls ⟨?_, ?_⟩ hS1 h
  · rw [← mk_W_set haN]; exact hP1
  · exact hP.2
end MKR
