/-! rows of the flat machine: an instruction, a row; and the pure combinators -/
def fm_V (w : fm_W) (lay : Nat → fm_L) (N : Nat) (l : Launch) (R : Room) (cc : ByteArray) (nL : Nat) (own : String) (ret : Option FieldType) (o : fm_O) (pc : Nat) (lv : List (Option Value)) (st : List Value) (σ : fm_M) : Prop :=
  ∀ (p : Program) (e : Env) (s : State) (m : MethodId) (args : Array Value) (below : List Frame) (meth : Method) (c : Code), fm_X w N cc nL own ret p s m args meth c → ∀ (H : Heap) (locs : List Loc) (ls : Array Slot), fm_P w lay N σ H → va_S (fm_A w N) s.heap H locs → fm_has ls nL lv →
    W p l e R s m args below meth c H locs 0 0 (MQ below (fm_Q w lay N o) args s 0 0 (fm_A w N)) (F0 m pc ls st)
-- pure words
def fm_in (i : Int32) (n : Nat) : Bool := decide (0 ≤ i.toInt ∧ i.toInt < n)
theorem fm_in_vp {i : Int32} {n : Nat} (h : fm_in i n = true) : vp_in i n := vp_in_iff.mpr (of_decide_eq_true h)
def fm_b (x : Int32) : Bool := decide (x = 0 ∨ x = 1)
theorem fm_b_nar {x : Int32} (h : fm_b x = true) : narrow .boolean (.int x) = .int x ∧ fits .boolean (.int x) = true := by
  rcases of_decide_eq_true h with rfl | rfl <;> exact ⟨by decide, by decide⟩
def fm_ch (x : Int32) : Bool := decide (0 ≤ x.toInt ∧ x.toInt < 65536)
theorem fm_ch_nar {x : Int32} (h : fm_ch x = true) : narrow .char (.int x) = .int x := by
  obtain ⟨h1, h2⟩ := of_decide_eq_true h
  have hx : ¬ x < 0 := by
    intro q
    have := Int32.lt_iff_toInt_lt.mp q
    rw [Int32.toInt_zero] at this
    omega
  obtain ⟨j, hj, rfl⟩ := nI_of hx
  rw [nI_toInt hj] at h2
  exact (pk_charN (by omega)).1
def fm_bd {α β : Type} (o : Option (α × fm_M)) (k : α → fm_M → Option β) : Option β := match o with
  | none => none
  | some q => k q.1 q.2
theorem fm_bds {α β : Type} {o : Option (α × fm_M)} {k : α → fm_M → Option β} {b : β} (h : fm_bd o k = some b) : ∃ (x : α) (σ : fm_M), o = some (x, σ) ∧ k x σ = some b := by
  cases o with
  | none => cases h
  | some q => exact ⟨q.1, q.2, rfl, h⟩
def fm_op {α β : Type} (o : Option α) (k : α → Option β) : Option β := match o with
  | none => none
  | some q => k q
theorem fm_ops {α β : Type} {o : Option α} {k : α → Option β} {b : β} (h : fm_op o k = some b) : ∃ x : α, o = some x ∧ k x = some b := by
  cases o with
  | none => cases h
  | some q => exact ⟨q, rfl, h⟩
def fm_it {S X : Type} (body : S → Option (S ⊕ X)) : Nat → S → Option X
  | 0, _ => none
  | n + 1, s => match body s with
    | none => none
    | some (.inl t) => fm_it body n t
    | some (.inr x) => some x
theorem fm_it_0 {S X : Type} {body : S → Option (S ⊕ X)} {s : S} {x : X} (h : fm_it body 0 s = some x) : False := by cases h
theorem fm_it_s {S X : Type} {body : S → Option (S ⊕ X)} {n : Nat} {s : S} {x : X} (h : fm_it body (n + 1) s = some x) : (∃ t, body s = some (.inl t) ∧ fm_it body n t = some x) ∨ body s = some (.inr x) := by
  unfold fm_it at h
  cases hb : body s with
  | none => rw [hb] at h; cases h
  | some o =>
    rw [hb] at h
    cases o with
    | inl t => exact Or.inl ⟨t, rfl, h⟩
    | inr y => cases h; exact Or.inr rfl
theorem fm_it_loop {S X : Type} {body : S → Option (S ⊕ X)} {P : S → Prop} {K : X → Prop} (hb : ∀ s o, body s = some o → (∀ t, o = .inl t → P t) → (∀ x, o = .inr x → K x) → P s) : ∀ (n : Nat) (s : S) (x : X), fm_it body n s = some x → K x → P s := by
  intro n
  induction n with
  | zero => intro s x h; exact absurd h (fun q => fm_it_0 q)
  | succ n ih =>
    intro s x h hk
    rcases fm_it_s h with ⟨t, h1, h2⟩ | h1
    · exact hb s _ h1 (fun t' e => by cases e; exact ih t x h2 hk) (fun y e => by cases e)
    · exact hb s _ h1 (fun t' e => by cases e) (fun y e => by cases e; exact hk)
theorem fm_ift {b : Bool} {α : Type} {A : Option α} {o : α} (h : (if b = true then A else none) = some o) : b = true ∧ A = some o := by
  by_cases hb : b = true
  · rw [if_pos hb] at h; exact ⟨hb, h⟩
  · rw [if_neg hb] at h; cases h
theorem fm_ifz {y : Int32} {α : Type} {A : Option α} {o : α} (h : (if y = 0 then none else A) = some o) : ¬ y = 0 ∧ A = some o := by
  by_cases hb : y = 0
  · rw [if_pos hb] at h; cases h
  · rw [if_neg hb] at h; exact ⟨hb, h⟩
def fm_fu : Nat := 100000
section FMR
variable {w : fm_W} {lay : Nat → fm_L} {N : Nat} {l : Launch} {R : Room} {cc : ByteArray} {nL : Nat} {own : String} {ret : Option FieldType} {o : fm_O} {pc : Nat} {lv lv' : List (Option Value)} {st : List Value} {σ : fm_M}
theorem v_iconst {n : Int} (v : Int32) (hd : decode cc pc = .ok (.iconst n, 1)) (hv : Int32.ofInt n = v) (k : fm_V w lay N l R cc nL own ret o (pc + 1) lv (.int v :: st) σ) : fm_V w lay N l R cc nL own ret o pc lv st σ := by
  intro p e s m args below meth c X H locs ls hP hS hl
  exact lv_iconst X.1 X.2.1 hd hv (k p e s m args below meth c X H locs ls hP hS hl)
theorem v_bipush {n : Int} (v : Int32) (hd : decode cc pc = .ok (.bipush n, 2)) (hv : (Int8.ofInt n).toInt32 = v) (k : fm_V w lay N l R cc nL own ret o (pc + 2) lv (.int v :: st) σ) : fm_V w lay N l R cc nL own ret o pc lv st σ := by
  intro p e s m args below meth c X H locs ls hP hS hl
  exact lv_bipush X.1 X.2.1 hd hv (k p e s m args below meth c X H locs ls hP hS hl)
theorem v_sipush {n : Int} (v : Int32) (hd : decode cc pc = .ok (.sipush n, 3)) (hv : (Int16.ofInt n).toInt32 = v) (k : fm_V w lay N l R cc nL own ret o (pc + 3) lv (.int v :: st) σ) : fm_V w lay N l R cc nL own ret o pc lv st σ := by
  intro p e s m args below meth c X H locs ls hP hS hl
  exact lv_sipush X.1 X.2.1 hd hv (k p e s m args below meth c X H locs ls hP hS hl)
theorem v_lconst {n : Fin 2} (v : Int64) (hd : decode cc pc = .ok (.lconst n, 1)) (hv : Int64.ofNat (n : Nat) = v) (k : fm_V w lay N l R cc nL own ret o (pc + 1) lv (.long v :: st) σ) : fm_V w lay N l R cc nL own ret o pc lv st σ := by
  intro p e s m args below meth c X H locs ls hP hS hl
  exact lv_lconst X.1 X.2.1 hd hv (k p e s m args below meth c X H locs ls hP hS hl)
theorem v_ldc2 {index : Nat} {v : Int64} (hc : Cond.constantLong own index v ∈ gw) (hd : decode cc pc = .ok (.ldc2_w index, 3)) (k : fm_V w lay N l R cc nL own ret o (pc + 3) lv (.long v :: st) σ) : fm_V w lay N l R cc nL own ret o pc lv st σ := by
  intro p e s m args below meth c X H locs ls hP hS hl
  exact lv_ldc2 X.1 X.2.1 X.2.2.2.2.1 (X.2.2.2.2.2.1 _ hc) hd (k p e s m args below meth c X H locs ls hP hS hl)
theorem v_iload_n {q : Fin 4} (i : Nat) {x : Int32} (hd : decode cc pc = .ok (.iload_n q, 1)) (hi : (q : Nat) = i) (hl : lv[i]? = some (some (.int x))) (k : fm_V w lay N l R cc nL own ret o (pc + 1) lv (.int x :: st) σ) : fm_V w lay N l R cc nL own ret o pc lv st σ := by
  intro p e s m args below meth c X H locs ls hP hS h
  exact lv_iload_n X.1 X.2.1 hd hi (h.2.2.2 _ _ hl) (k p e s m args below meth c X H locs ls hP hS h)
theorem v_iload {i : Nat} {x : Int32} (hd : decode cc pc = .ok (.iload i, 2)) (hl : lv[i]? = some (some (.int x))) (k : fm_V w lay N l R cc nL own ret o (pc + 2) lv (.int x :: st) σ) : fm_V w lay N l R cc nL own ret o pc lv st σ := by
  intro p e s m args below meth c X H locs ls hP hS h
  exact lv_iload X.1 X.2.1 hd (h.2.2.2 _ _ hl) (k p e s m args below meth c X H locs ls hP hS h)
theorem v_lload_n {q : Fin 4} (i : Nat) {x : Int64} (hd : decode cc pc = .ok (.lload_n q, 1)) (hi : (q : Nat) = i) (hl : lv[i]? = some (some (.long x))) (k : fm_V w lay N l R cc nL own ret o (pc + 1) lv (.long x :: st) σ) : fm_V w lay N l R cc nL own ret o pc lv st σ := by
  intro p e s m args below meth c X H locs ls hP hS h
  exact lv_lload_n X.1 X.2.1 hd hi (h.2.2.2 _ _ hl) (k p e s m args below meth c X H locs ls hP hS h)
theorem v_lload {i : Nat} {x : Int64} (hd : decode cc pc = .ok (.lload i, 2)) (hl : lv[i]? = some (some (.long x))) (k : fm_V w lay N l R cc nL own ret o (pc + 2) lv (.long x :: st) σ) : fm_V w lay N l R cc nL own ret o pc lv st σ := by
  intro p e s m args below meth c X H locs ls hP hS h
  exact lv_lload X.1 X.2.1 hd (h.2.2.2 _ _ hl) (k p e s m args below meth c X H locs ls hP hS h)
theorem v_aload_n {q : Fin 4} (i : Nat) {x : Nat} (hd : decode cc pc = .ok (.aload_n q, 1)) (hi : (q : Nat) = i) (hl : lv[i]? = some (some (.ref x))) (k : fm_V w lay N l R cc nL own ret o (pc + 1) lv (.ref x :: st) σ) : fm_V w lay N l R cc nL own ret o pc lv st σ := by
  intro p e s m args below meth c X H locs ls hP hS h
  exact lv_aload_n X.1 X.2.1 hd hi (h.2.2.2 _ _ hl) (k p e s m args below meth c X H locs ls hP hS h)
theorem v_istore_n {q : Fin 4} (i : Nat) {x : Int32} (hd : decode cc pc = .ok (.istore_n q, 1)) (hi : (q : Nat) = i) (hn : i < nL) (h2 : fm_c2 lv i = true) (hl : lv.set i (some (.int x)) = lv') (k : fm_V w lay N l R cc nL own ret o (pc + 1) lv' st σ) : fm_V w lay N l R cc nL own ret o pc lv (.int x :: st) σ := by
  intro p e s m args below meth c X H locs ls hP hS h
  exact lv_istore_n X.1 X.2.1 hd hi h.to hn rfl (fun ls' h' => k p e s m args below meth c X H locs ls' hP hS (hl ▸ h.set hn h2 h'))
theorem v_istore {i : Nat} {x : Int32} (hd : decode cc pc = .ok (.istore i, 2)) (hn : i < nL) (h2 : fm_c2 lv i = true) (hl : lv.set i (some (.int x)) = lv') (k : fm_V w lay N l R cc nL own ret o (pc + 2) lv' st σ) : fm_V w lay N l R cc nL own ret o pc lv (.int x :: st) σ := by
  intro p e s m args below meth c X H locs ls hP hS h
  exact lv_istore X.1 X.2.1 hd h.to hn rfl (fun ls' h' => k p e s m args below meth c X H locs ls' hP hS (hl ▸ h.set hn h2 h'))
theorem v_lstore_n {q : Fin 4} (i : Nat) {x : Int64} (hd : decode cc pc = .ok (.lstore_n q, 1)) (hi : (q : Nat) = i) (hn : i + 1 < nL) (h2 : fm_c2 lv i = true) (hl : (lv.set i (some (.long x))).set (i + 1) none = lv') (k : fm_V w lay N l R cc nL own ret o (pc + 1) lv' st σ) : fm_V w lay N l R cc nL own ret o pc lv (.long x :: st) σ := by
  intro p e s m args below meth c X H locs ls hP hS h
  exact lv_lstore_n X.1 X.2.1 hd hi h.to hn rfl (fun ls' h' => k p e s m args below meth c X H locs ls' hP hS (hl ▸ h.set2 hn h2 h'))
theorem v_lstore {i : Nat} {x : Int64} (hd : decode cc pc = .ok (.lstore i, 2)) (hn : i + 1 < nL) (h2 : fm_c2 lv i = true) (hl : (lv.set i (some (.long x))).set (i + 1) none = lv') (k : fm_V w lay N l R cc nL own ret o (pc + 2) lv' st σ) : fm_V w lay N l R cc nL own ret o pc lv (.long x :: st) σ := by
  intro p e s m args below meth c X H locs ls hP hS h
  exact lv_lstore X.1 X.2.1 hd h.to hn rfl (fun ls' h' => k p e s m args below meth c X H locs ls' hP hS (hl ▸ h.set2 hn h2 h'))
theorem v_iinc {i : Nat} {n : Int} {x : Int32} (v : Int32) (hd : decode cc pc = .ok (.iinc i n, 3)) (hx : lv[i]? = some (some (.int x))) (hv : Int32.ofInt n = v) (hn : i < nL) (h2 : fm_c2 lv i = true) (hl : lv.set i (some (.int (x + v))) = lv') (k : fm_V w lay N l R cc nL own ret o (pc + 3) lv' st σ) : fm_V w lay N l R cc nL own ret o pc lv st σ := by
  intro p e s m args below meth c X H locs ls hP hS h
  subst hv
  obtain ⟨j, hj⟩ := List.getElem?_of_mem (fm_as_mem (q := (i, .int x)).mpr hx)
  exact lv_iinc X.1 X.2.1 hd h.to hj rfl hn rfl (fun ls' h' => k p e s m args below meth c X H locs ls' hP hS (hl ▸ h.set hn h2 h'))
theorem v_iadd {x y : Int32} (hd : decode cc pc = .ok (.iadd, 1)) (k : fm_V w lay N l R cc nL own ret o (pc + 1) lv (.int (x + y) :: st) σ) : fm_V w lay N l R cc nL own ret o pc lv (.int y :: .int x :: st) σ := by
  intro p e s m args below meth c X H locs ls hP hS h
  exact lv_iadd X.1 X.2.1 hd (k p e s m args below meth c X H locs ls hP hS h)
theorem v_isub {x y : Int32} (hd : decode cc pc = .ok (.isub, 1)) (k : fm_V w lay N l R cc nL own ret o (pc + 1) lv (.int (x - y) :: st) σ) : fm_V w lay N l R cc nL own ret o pc lv (.int y :: .int x :: st) σ := by
  intro p e s m args below meth c X H locs ls hP hS h
  exact lv_isub X.1 X.2.1 hd (k p e s m args below meth c X H locs ls hP hS h)
theorem v_imul {x y : Int32} (hd : decode cc pc = .ok (.imul, 1)) (k : fm_V w lay N l R cc nL own ret o (pc + 1) lv (.int (x * y) :: st) σ) : fm_V w lay N l R cc nL own ret o pc lv (.int y :: .int x :: st) σ := by
  intro p e s m args below meth c X H locs ls hP hS h
  exact lv_imul X.1 X.2.1 hd (k p e s m args below meth c X H locs ls hP hS h)
theorem v_iand {x y : Int32} (hd : decode cc pc = .ok (.iand, 1)) (k : fm_V w lay N l R cc nL own ret o (pc + 1) lv (.int (x &&& y) :: st) σ) : fm_V w lay N l R cc nL own ret o pc lv (.int y :: .int x :: st) σ := by
  intro p e s m args below meth c X H locs ls hP hS h
  exact lv_iand X.1 X.2.1 hd (k p e s m args below meth c X H locs ls hP hS h)
theorem v_ior {x y : Int32} (hd : decode cc pc = .ok (.ior, 1)) (k : fm_V w lay N l R cc nL own ret o (pc + 1) lv (.int (x ||| y) :: st) σ) : fm_V w lay N l R cc nL own ret o pc lv (.int y :: .int x :: st) σ := by
  intro p e s m args below meth c X H locs ls hP hS h
  exact lv_ior X.1 X.2.1 hd (k p e s m args below meth c X H locs ls hP hS h)
theorem v_ishl {x y : Int32} (hd : decode cc pc = .ok (.ishl, 1)) (k : fm_V w lay N l R cc nL own ret o (pc + 1) lv (.int (x <<< (y &&& 31)) :: st) σ) : fm_V w lay N l R cc nL own ret o pc lv (.int y :: .int x :: st) σ := by
  intro p e s m args below meth c X H locs ls hP hS h
  exact lv_ishl X.1 X.2.1 hd (k p e s m args below meth c X H locs ls hP hS h)
theorem v_ladd {x y : Int64} (hd : decode cc pc = .ok (.ladd, 1)) (k : fm_V w lay N l R cc nL own ret o (pc + 1) lv (.long (x + y) :: st) σ) : fm_V w lay N l R cc nL own ret o pc lv (.long y :: .long x :: st) σ := by
  intro p e s m args below meth c X H locs ls hP hS h
  exact lv_ladd X.1 X.2.1 hd (k p e s m args below meth c X H locs ls hP hS h)
theorem v_lsub {x y : Int64} (hd : decode cc pc = .ok (.lsub, 1)) (k : fm_V w lay N l R cc nL own ret o (pc + 1) lv (.long (x - y) :: st) σ) : fm_V w lay N l R cc nL own ret o pc lv (.long y :: .long x :: st) σ := by
  intro p e s m args below meth c X H locs ls hP hS h
  exact lv_lsub X.1 X.2.1 hd (k p e s m args below meth c X H locs ls hP hS h)
theorem v_lmul {x y : Int64} (hd : decode cc pc = .ok (.lmul, 1)) (k : fm_V w lay N l R cc nL own ret o (pc + 1) lv (.long (x * y) :: st) σ) : fm_V w lay N l R cc nL own ret o pc lv (.long y :: .long x :: st) σ := by
  intro p e s m args below meth c X H locs ls hP hS h
  exact lv_lmul X.1 X.2.1 hd (k p e s m args below meth c X H locs ls hP hS h)
theorem v_idiv {x y : Int32} (hd : decode cc pc = .ok (.idiv, 1)) (hne : ¬ y = 0) (k : fm_V w lay N l R cc nL own ret o (pc + 1) lv (.int (x / y) :: st) σ) : fm_V w lay N l R cc nL own ret o pc lv (.int y :: .int x :: st) σ := by
  intro p e s m args below meth c X H locs ls hP hS h
  exact lv_idiv X.1 X.2.1 hd hne (k p e s m args below meth c X H locs ls hP hS h)
theorem v_irem {x y : Int32} (hd : decode cc pc = .ok (.irem, 1)) (hne : ¬ y = 0) (k : fm_V w lay N l R cc nL own ret o (pc + 1) lv (.int (x - x / y * y) :: st) σ) : fm_V w lay N l R cc nL own ret o pc lv (.int y :: .int x :: st) σ := by
  intro p e s m args below meth c X H locs ls hP hS h
  exact lv_irem X.1 X.2.1 hd hne (k p e s m args below meth c X H locs ls hP hS h)
theorem v_ldiv {x y : Int64} (hd : decode cc pc = .ok (.ldiv, 1)) (hne : ¬ y = 0) (k : fm_V w lay N l R cc nL own ret o (pc + 1) lv (.long (x / y) :: st) σ) : fm_V w lay N l R cc nL own ret o pc lv (.long y :: .long x :: st) σ := by
  intro p e s m args below meth c X H locs ls hP hS h
  exact lv_ldiv X.1 X.2.1 hd hne (k p e s m args below meth c X H locs ls hP hS h)
theorem v_lrem {x y : Int64} (hd : decode cc pc = .ok (.lrem, 1)) (hne : ¬ y = 0) (k : fm_V w lay N l R cc nL own ret o (pc + 1) lv (.long (x - x / y * y) :: st) σ) : fm_V w lay N l R cc nL own ret o pc lv (.long y :: .long x :: st) σ := by
  intro p e s m args below meth c X H locs ls hP hS h
  exact lv_lrem X.1 X.2.1 hd hne (k p e s m args below meth c X H locs ls hP hS h)
theorem v_i2l {x : Int32} (hd : decode cc pc = .ok (.i2l, 1)) (k : fm_V w lay N l R cc nL own ret o (pc + 1) lv (.long (x.toInt64) :: st) σ) : fm_V w lay N l R cc nL own ret o pc lv (.int x :: st) σ := by
  intro p e s m args below meth c X H locs ls hP hS h
  exact lv_i2l X.1 X.2.1 hd rfl (k p e s m args below meth c X H locs ls hP hS h)
theorem v_l2i {x : Int64} (hd : decode cc pc = .ok (.l2i, 1)) (k : fm_V w lay N l R cc nL own ret o (pc + 1) lv (.int (x.toInt32) :: st) σ) : fm_V w lay N l R cc nL own ret o pc lv (.long x :: st) σ := by
  intro p e s m args below meth c X H locs ls hP hS h
  exact lv_l2i X.1 X.2.1 hd rfl (k p e s m args below meth c X H locs ls hP hS h)
theorem v_i2c {x : Int32} (hd : decode cc pc = .ok (.i2c, 1)) (k : fm_V w lay N l R cc nL own ret o (pc + 1) lv (.int ((x.toUInt32 % 65536).toInt32) :: st) σ) : fm_V w lay N l R cc nL own ret o pc lv (.int x :: st) σ := by
  intro p e s m args below meth c X H locs ls hP hS h
  exact lv_i2c X.1 X.2.1 hd rfl (k p e s m args below meth c X H locs ls hP hS h)
theorem v_dup {a : Value} (hd : decode cc pc = .ok (.dup, 1)) (ha : a.category = 1) (k : fm_V w lay N l R cc nL own ret o (pc + 1) lv (a :: a :: st) σ) : fm_V w lay N l R cc nL own ret o pc lv (a :: st) σ := by
  intro p e s m args below meth c X H locs ls hP hS h
  exact lv_dup X.1 X.2.1 hd ha (k p e s m args below meth c X H locs ls hP hS h)
theorem v_pop {a : Value} (hd : decode cc pc = .ok (.pop, 1)) (ha : a.category = 1) (k : fm_V w lay N l R cc nL own ret o (pc + 1) lv st σ) : fm_V w lay N l R cc nL own ret o pc lv (a :: st) σ := by
  intro p e s m args below meth c X H locs ls hP hS h
  exact lv_pop X.1 X.2.1 hd ha (k p e s m args below meth c X H locs ls hP hS h)
theorem v_dup_x1 {a b : Value} (hd : decode cc pc = .ok (.dup_x1, 1)) (ha : a.category = 1) (hb : b.category = 1) (k : fm_V w lay N l R cc nL own ret o (pc + 1) lv (a :: b :: a :: st) σ) : fm_V w lay N l R cc nL own ret o pc lv (a :: b :: st) σ := by
  intro p e s m args below meth c X H locs ls hP hS h
  exact lv_dup_x1 X.1 X.2.1 hd ha hb (k p e s m args below meth c X H locs ls hP hS h)
theorem v_dup2 {a b : Value} (hd : decode cc pc = .ok (.dup2, 1)) (ha : a.category = 1) (hb : b.category = 1) (k : fm_V w lay N l R cc nL own ret o (pc + 1) lv (a :: b :: a :: b :: st) σ) : fm_V w lay N l R cc nL own ret o pc lv (a :: b :: st) σ := by
  intro p e s m args below meth c X H locs ls hP hS h
  exact lv_dup2_11 X.1 X.2.1 hd ha hb (k p e s m args below meth c X H locs ls hP hS h)
theorem v_goto {off : Int} (tgt : Nat) (hd : decode cc pc = .ok (.goto off, 3)) (ht : (pc : Int) + off = (tgt : Int)) (k : fm_V w lay N l R cc nL own ret o tgt lv st σ) : fm_V w lay N l R cc nL own ret o pc lv st σ := by
  intro p e s m args below meth c X H locs ls hP hS h
  exact lv_goto X.1 X.2.1 hd ht (k p e s m args below meth c X H locs ls hP hS h)
theorem v_if_eq {x : Int32} {off : Int} {α : Type} {A B : Option α} {z : α} (tgt : Nat) (hd : decode cc pc = .ok (.ifCond .eq off, 3)) (ht : (pc : Int) + off = (tgt : Int)) (h : (if x = 0 then A else B) = some z) (kt : A = some z → fm_V w lay N l R cc nL own ret o tgt lv st σ) (kf : B = some z → fm_V w lay N l R cc nL own ret o (pc + 3) lv st σ) : fm_V w lay N l R cc nL own ret o pc lv (.int x :: st) σ := by
  intro p e s m args below meth c X H locs ls hP hS hh
  exact lv_if_eq X.1 X.2.1 hd ht (fun q => kt (by rwa [if_pos q] at h) p e s m args below meth c X H locs ls hP hS hh) (fun q => kf (by rwa [if_neg q] at h) p e s m args below meth c X H locs ls hP hS hh)
theorem v_icmp_eq {x y : Int32} {off : Int} {α : Type} {A B : Option α} {z : α} (tgt : Nat) (hd : decode cc pc = .ok (.if_icmp .eq off, 3)) (ht : (pc : Int) + off = (tgt : Int)) (h : (if x = y then A else B) = some z) (kt : A = some z → fm_V w lay N l R cc nL own ret o tgt lv st σ) (kf : B = some z → fm_V w lay N l R cc nL own ret o (pc + 3) lv st σ) : fm_V w lay N l R cc nL own ret o pc lv (.int y :: .int x :: st) σ := by
  intro p e s m args below meth c X H locs ls hP hS hh
  exact lv_icmp_eq X.1 X.2.1 hd ht (fun q => kt (by rwa [if_pos q] at h) p e s m args below meth c X H locs ls hP hS hh) (fun q => kf (by rwa [if_neg q] at h) p e s m args below meth c X H locs ls hP hS hh)
theorem v_if_lt {x : Int32} {off : Int} {α : Type} {A B : Option α} {z : α} (tgt : Nat) (hd : decode cc pc = .ok (.ifCond .lt off, 3)) (ht : (pc : Int) + off = (tgt : Int)) (h : (if x < 0 then A else B) = some z) (kt : A = some z → fm_V w lay N l R cc nL own ret o tgt lv st σ) (kf : B = some z → fm_V w lay N l R cc nL own ret o (pc + 3) lv st σ) : fm_V w lay N l R cc nL own ret o pc lv (.int x :: st) σ := by
  intro p e s m args below meth c X H locs ls hP hS hh
  exact lv_if_lt X.1 X.2.1 hd ht (fun q => kt (by rwa [if_pos q] at h) p e s m args below meth c X H locs ls hP hS hh) (fun q => kf (by rwa [if_neg q] at h) p e s m args below meth c X H locs ls hP hS hh)
theorem v_icmp_lt {x y : Int32} {off : Int} {α : Type} {A B : Option α} {z : α} (tgt : Nat) (hd : decode cc pc = .ok (.if_icmp .lt off, 3)) (ht : (pc : Int) + off = (tgt : Int)) (h : (if x < y then A else B) = some z) (kt : A = some z → fm_V w lay N l R cc nL own ret o tgt lv st σ) (kf : B = some z → fm_V w lay N l R cc nL own ret o (pc + 3) lv st σ) : fm_V w lay N l R cc nL own ret o pc lv (.int y :: .int x :: st) σ := by
  intro p e s m args below meth c X H locs ls hP hS hh
  exact lv_icmp_lt X.1 X.2.1 hd ht (fun q => kt (by rwa [if_pos q] at h) p e s m args below meth c X H locs ls hP hS hh) (fun q => kf (by rwa [if_neg q] at h) p e s m args below meth c X H locs ls hP hS hh)
theorem v_if_ge {x : Int32} {off : Int} {α : Type} {A B : Option α} {z : α} (tgt : Nat) (hd : decode cc pc = .ok (.ifCond .ge off, 3)) (ht : (pc : Int) + off = (tgt : Int)) (h : (if 0 ≤ x then A else B) = some z) (kt : A = some z → fm_V w lay N l R cc nL own ret o tgt lv st σ) (kf : B = some z → fm_V w lay N l R cc nL own ret o (pc + 3) lv st σ) : fm_V w lay N l R cc nL own ret o pc lv (.int x :: st) σ := by
  intro p e s m args below meth c X H locs ls hP hS hh
  exact lv_if_ge X.1 X.2.1 hd ht (fun q => kt (by rwa [if_pos q] at h) p e s m args below meth c X H locs ls hP hS hh) (fun q => kf (by rwa [if_neg q] at h) p e s m args below meth c X H locs ls hP hS hh)
theorem v_icmp_ge {x y : Int32} {off : Int} {α : Type} {A B : Option α} {z : α} (tgt : Nat) (hd : decode cc pc = .ok (.if_icmp .ge off, 3)) (ht : (pc : Int) + off = (tgt : Int)) (h : (if y ≤ x then A else B) = some z) (kt : A = some z → fm_V w lay N l R cc nL own ret o tgt lv st σ) (kf : B = some z → fm_V w lay N l R cc nL own ret o (pc + 3) lv st σ) : fm_V w lay N l R cc nL own ret o pc lv (.int y :: .int x :: st) σ := by
  intro p e s m args below meth c X H locs ls hP hS hh
  exact lv_icmp_ge X.1 X.2.1 hd ht (fun q => kt (by rwa [if_pos q] at h) p e s m args below meth c X H locs ls hP hS hh) (fun q => kf (by rwa [if_neg q] at h) p e s m args below meth c X H locs ls hP hS hh)
theorem v_if_gt {x : Int32} {off : Int} {α : Type} {A B : Option α} {z : α} (tgt : Nat) (hd : decode cc pc = .ok (.ifCond .gt off, 3)) (ht : (pc : Int) + off = (tgt : Int)) (h : (if 0 < x then A else B) = some z) (kt : A = some z → fm_V w lay N l R cc nL own ret o tgt lv st σ) (kf : B = some z → fm_V w lay N l R cc nL own ret o (pc + 3) lv st σ) : fm_V w lay N l R cc nL own ret o pc lv (.int x :: st) σ := by
  intro p e s m args below meth c X H locs ls hP hS hh
  exact lv_if_gt X.1 X.2.1 hd ht (fun q => kt (by rwa [if_pos q] at h) p e s m args below meth c X H locs ls hP hS hh) (fun q => kf (by rwa [if_neg q] at h) p e s m args below meth c X H locs ls hP hS hh)
theorem v_icmp_gt {x y : Int32} {off : Int} {α : Type} {A B : Option α} {z : α} (tgt : Nat) (hd : decode cc pc = .ok (.if_icmp .gt off, 3)) (ht : (pc : Int) + off = (tgt : Int)) (h : (if y < x then A else B) = some z) (kt : A = some z → fm_V w lay N l R cc nL own ret o tgt lv st σ) (kf : B = some z → fm_V w lay N l R cc nL own ret o (pc + 3) lv st σ) : fm_V w lay N l R cc nL own ret o pc lv (.int y :: .int x :: st) σ := by
  intro p e s m args below meth c X H locs ls hP hS hh
  exact lv_icmp_gt X.1 X.2.1 hd ht (fun q => kt (by rwa [if_pos q] at h) p e s m args below meth c X H locs ls hP hS hh) (fun q => kf (by rwa [if_neg q] at h) p e s m args below meth c X H locs ls hP hS hh)
theorem v_if_le {x : Int32} {off : Int} {α : Type} {A B : Option α} {z : α} (tgt : Nat) (hd : decode cc pc = .ok (.ifCond .le off, 3)) (ht : (pc : Int) + off = (tgt : Int)) (h : (if x ≤ 0 then A else B) = some z) (kt : A = some z → fm_V w lay N l R cc nL own ret o tgt lv st σ) (kf : B = some z → fm_V w lay N l R cc nL own ret o (pc + 3) lv st σ) : fm_V w lay N l R cc nL own ret o pc lv (.int x :: st) σ := by
  intro p e s m args below meth c X H locs ls hP hS hh
  exact lv_if_le X.1 X.2.1 hd ht (fun q => kt (by rwa [if_pos q] at h) p e s m args below meth c X H locs ls hP hS hh) (fun q => kf (by rwa [if_neg q] at h) p e s m args below meth c X H locs ls hP hS hh)
theorem v_icmp_le {x y : Int32} {off : Int} {α : Type} {A B : Option α} {z : α} (tgt : Nat) (hd : decode cc pc = .ok (.if_icmp .le off, 3)) (ht : (pc : Int) + off = (tgt : Int)) (h : (if x ≤ y then A else B) = some z) (kt : A = some z → fm_V w lay N l R cc nL own ret o tgt lv st σ) (kf : B = some z → fm_V w lay N l R cc nL own ret o (pc + 3) lv st σ) : fm_V w lay N l R cc nL own ret o pc lv (.int y :: .int x :: st) σ := by
  intro p e s m args below meth c X H locs ls hP hS hh
  exact lv_icmp_le X.1 X.2.1 hd ht (fun q => kt (by rwa [if_pos q] at h) p e s m args below meth c X H locs ls hP hS hh) (fun q => kf (by rwa [if_neg q] at h) p e s m args below meth c X H locs ls hP hS hh)
theorem v_if_ne {x : Int32} {off : Int} {α : Type} {A B : Option α} {z : α} (tgt : Nat) (hd : decode cc pc = .ok (.ifCond .ne off, 3)) (ht : (pc : Int) + off = (tgt : Int)) (h : (if x = 0 then A else B) = some z) (kt : B = some z → fm_V w lay N l R cc nL own ret o tgt lv st σ) (kf : A = some z → fm_V w lay N l R cc nL own ret o (pc + 3) lv st σ) : fm_V w lay N l R cc nL own ret o pc lv (.int x :: st) σ := by
  intro p e s m args below meth c X H locs ls hP hS hh
  exact lv_if_ne X.1 X.2.1 hd ht (fun q => kt (by rwa [if_neg q] at h) p e s m args below meth c X H locs ls hP hS hh) (fun q => kf (by rwa [if_pos q] at h) p e s m args below meth c X H locs ls hP hS hh)
theorem v_icmp_ne {x y : Int32} {off : Int} {α : Type} {A B : Option α} {z : α} (tgt : Nat) (hd : decode cc pc = .ok (.if_icmp .ne off, 3)) (ht : (pc : Int) + off = (tgt : Int)) (h : (if x = y then A else B) = some z) (kt : B = some z → fm_V w lay N l R cc nL own ret o tgt lv st σ) (kf : A = some z → fm_V w lay N l R cc nL own ret o (pc + 3) lv st σ) : fm_V w lay N l R cc nL own ret o pc lv (.int y :: .int x :: st) σ := by
  intro p e s m args below meth c X H locs ls hP hS hh
  exact lv_icmp_ne X.1 X.2.1 hd ht (fun q => kt (by rwa [if_neg q] at h) p e s m args below meth c X H locs ls hP hS hh) (fun q => kf (by rwa [if_pos q] at h) p e s m args below meth c X H locs ls hP hS hh)
theorem v_tabIn {dflt lo hi : Int} {offs : Array Int} {len : Nat} {x : Int32} {off : Int} (j : Int32) (tgt : Nat) (hd : decode cc pc = .ok (.tableswitch dflt lo hi offs, len)) (hx : x = j) (hj : ¬ j.toInt < lo ∧ ¬ hi < j.toInt ∧ offs[(j.toInt - lo).toNat]? = some off) (ht : (pc : Int) + off = (tgt : Int)) (k : fm_V w lay N l R cc nL own ret o tgt lv st σ) : fm_V w lay N l R cc nL own ret o pc lv (.int x :: st) σ := by
  intro p e s m args below meth c X H locs ls hP hS h
  subst hx
  exact lv_tableIn X.1 X.2.1 hd hj.1 hj.2.1 hj.2.2 ht (k p e s m args below meth c X H locs ls hP hS h)
theorem v_tabOut {dflt lo hi : Int} {offs : Array Int} {len : Nat} {x : Int32} (tgt : Nat) (hd : decode cc pc = .ok (.tableswitch dflt lo hi offs, len)) (hx : x.toInt < lo ∨ hi < x.toInt) (ht : (pc : Int) + dflt = (tgt : Int)) (k : fm_V w lay N l R cc nL own ret o tgt lv st σ) : fm_V w lay N l R cc nL own ret o pc lv (.int x :: st) σ := by
  intro p e s m args below meth c X H locs ls hP hS h
  exact lv_tableOut X.1 X.2.1 hd hx ht (k p e s m args below meth c X H locs ls hP hS h)
theorem v_lookup {dflt : Int} {ps : Array (Int × Int)} {len : Nat} {x : Int32} {off : Int} (tgt : Nat) (hd : decode cc pc = .ok (.lookupswitch dflt ps, len)) (hp : (ps.toList.zip (ps.toList.drop 1)).all (fun (a, next) => a.1 < next.1) = true) (ho : Op.lookupswitch.offset ps.toList dflt x.toInt = off) (ht : (pc : Int) + off = (tgt : Int)) (k : fm_V w lay N l R cc nL own ret o tgt lv st σ) : fm_V w lay N l R cc nL own ret o pc lv (.int x :: st) σ := by
  intro p e s m args below meth c X H locs ls hP hS h
  exact lv_lookup X.1 X.2.1 hd hp ho ht (k p e s m args below meth c X H locs ls hP hS h)
theorem v_lv (hl : lv'.length = nL) (hs : ∀ (i : Nat) (v : Value), lv'[i]? = some (some v) → lv[i]? = some (some v)) (k : fm_V w lay N l R cc nL own ret o pc lv' st σ) : fm_V w lay N l R cc nL own ret o pc lv st σ := by
  intro p e s m args below meth c X H locs ls hP hS h
  exact k p e s m args below meth c X H locs ls hP hS (h.weaken hl hs)
theorem v_iret {x : Int32} (hr : ret = some .int) (ho : o = (some (.int x), σ)) (hd : decode cc pc = .ok (.ireturn, 1)) : fm_V w lay N l R cc nL own ret o pc lv [.int x] σ := by
  intro p e s m args below meth c X H locs ls hP hS h
  subst ho
  have hlocks := X.2.2.2.2.2.2.1
  exact W.iret X.1 X.2.1 (by rw [X.2.2.1, hr]) (fun t ht hW => ⟨rfl, by rw [ht]; exact hP, hS.F ht⟩) hS.2.2 hd
theorem v_zret {x : Int32} {ty : FieldType} (hr : ret = some ty) (hn : narrow ty (.int x) = .int x) (ho : o = (some (.int x), σ)) (hd : decode cc pc = .ok (.ireturn, 1)) : fm_V w lay N l R cc nL own ret o pc lv [.int x] σ := by
  intro p e s m args below meth c X H locs ls hP hS h
  subst ho
  have hlocks := X.2.2.2.2.2.2.1
  exact W.zret X.1 X.2.1 (by rw [X.2.2.1, hr]) hn (fun t ht hW => ⟨rfl, by rw [ht]; exact hP, hS.F ht⟩) hS.2.2 hd
theorem v_vret (hr : ret = none) (ho : o = (none, σ)) (hd : decode cc pc = .ok (.return_, 1)) : fm_V w lay N l R cc nL own ret o pc lv [] σ := by
  intro p e s m args below meth c X H locs ls hP hS h
  subst ho
  have hlocks := X.2.2.2.2.2.2.1
  exact W.vret X.1 X.2.1 (by rw [X.2.2.1, hr]) (fun t ht hW => ⟨rfl, by rw [ht]; exact hP, hS.F ht⟩) hS.2.2 hd
end FMR
