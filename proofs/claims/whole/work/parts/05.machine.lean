/-! THE FLAT MACHINE: one memory of ints for the whole system (cell, slot), a fixed layout, one row an instruction -/
def gw : List Cond := lw_tbl.filter goodWord
theorem gw_tbl {w : Cond} (h : w ∈ gw) : w ∈ lw_tbl := (List.mem_filter.mp h).1
theorem gw_in {w : Cond} (h : w ∈ lw_tbl) (hg : goodWord w = true) : w ∈ gw := List.mem_filter.mpr ⟨h, hg⟩
theorem gw_t {w : Cond} (i : Nat) (h : tables_1[i]? = some w) (hg : goodWord w = true) : w ∈ gw := gw_in (List.mem_append_right _ (List.mem_of_getElem? h)) hg
theorem gw_s {w : Cond} (i : Nat) (h : (k2_sels lw_privs)[i]? = some w) (hg : goodWord w = true) : w ∈ gw := gw_in (List.mem_append_left _ (List.mem_of_getElem? h)) hg
theorem gw_good {big : List Cond} {w : Cond} (h : w ∈ gw) (hb : ∀ x ∈ gw, x ∈ big) : GoodIn big (w :: gw) := by
  intro x hx
  have hx' : x ∈ gw := (List.mem_cons.mp hx).elim (fun e => e ▸ h) id
  exact ⟨hb x hx', good_of_word (List.mem_filter.mp hx').2⟩
def fm_isNest : Cond → Bool
  | .fieldLinkNest _ _ _ _ _ _ => true
  | .methodLinkNest _ _ _ _ => true
  | _ => false
def fm_nest : List Cond := tables_1.filter fm_isNest
theorem fm_nest_t {w : Cond} (i : Nat) (h : tables_1[i]? = some w) (hg : fm_isNest w = true) : w ∈ fm_nest := List.mem_filter.mpr ⟨List.mem_of_getElem? h, hg⟩
theorem fm_nest_warm {w : Cond} (hw : fm_isNest w = true) {s U : State} (hW : s.WarmedH U.vm) (h : va_Nw w s) : va_Nw w U := by
  cases w <;> first | exact va_Nw.warmF hW h | exact va_Nw.warmM hW h | cases hw
theorem fm_nest_on {w : Cond} (hw : fm_isNest w = true) : w.onTables = true := by
  cases w <;> first | rfl | cases hw
-- memory
abbrev fm_M : Type := Nat → Nat → Int32
abbrev fm_L : Type := (Nat × Nat) ⊕ (Nat × List (Option Nat))
abbrev fm_W : Type := va_G × (Nat → ClassId) × Nat × (Nat → Nat)
/-- a cell's address; 1000 is the class's own table BY_NUMBER, which nobody writes -/
def fm_ad (w : fm_W) : Nat → Nat := fun c => if c = 1000 then w.2.2.1 else w.2.2.2 c
def fm_st (σ : fm_M) (c : Nat) (f : Nat → Int32) : fm_M := fun c' => if c' = c then f else σ c'
def fm_up (σ : fm_M) (c k : Nat) (v : Int32) : fm_M := fm_st σ c (upd (σ c) k v)
def fm_cp (σ : fm_M) (c : Nat) (sp : Nat) (d : Nat) (dp n : Nat) : fm_M := fm_st σ d (va_cpy (σ c) (σ d) sp dp n)
def fm_fl (ad : Nat → Nat) (f : Nat → Int32) : Nat → List (Option Nat) → List Value
  | _, [] => []
  | k, none :: t => .int (f k) :: fm_fl ad f (k + 1) t
  | k, some c :: t => .ref (ad c) :: fm_fl ad f (k + 1) t
def fm_fv (ad : Nat → Nat) (f : Nat → Int32) (k : Nat) : Option Nat → Value
  | none => .int (f k)
  | some c => .ref (ad c)
theorem fm_fl_get (ad : Nat → Nat) (f : Nat → Int32) : ∀ (tm : List (Option Nat)) (j k : Nat), (fm_fl ad f j tm)[k]? = (tm[k]?).map (fm_fv ad f (j + k))
  | [], j, k => by simp [fm_fl]
  | none :: t, j, 0 => by simp [fm_fl, fm_fv]
  | some c :: t, j, 0 => by simp [fm_fl, fm_fv]
  | none :: t, j, k + 1 => by
    rw [fm_fl, List.getElem?_cons_succ, List.getElem?_cons_succ, fm_fl_get ad f t (j + 1) k, show j + 1 + k = j + (k + 1) by omega]
  | some c :: t, j, k + 1 => by
    rw [fm_fl, List.getElem?_cons_succ, List.getElem?_cons_succ, fm_fl_get ad f t (j + 1) k, show j + 1 + k = j + (k + 1) by omega]
theorem fm_fl_len (ad : Nat → Nat) (f : Nat → Int32) : ∀ (tm : List (Option Nat)) (j : Nat), (fm_fl ad f j tm).length = tm.length
  | [], j => rfl
  | none :: t, j => by rw [fm_fl, List.length_cons, List.length_cons, fm_fl_len ad f t]
  | some c :: t, j => by rw [fm_fl, List.length_cons, List.length_cons, fm_fl_len ad f t]
theorem fm_fl_set (ad : Nat → Nat) (f : Nat → Int32) (v : Int32) (tm : List (Option Nat)) (k : Nat) (h : tm[k]? = some none) : (fm_fl ad f 0 tm).set k (.int v) = fm_fl ad (upd f k v) 0 tm := by
  apply List.ext_getElem?
  intro i
  have hk : k < tm.length := (List.getElem?_eq_some_iff.mp h).1
  rw [fm_fl_get, Nat.zero_add]
  by_cases e : i = k
  · subst e
    rw [List.getElem?_set_self (by rw [fm_fl_len]; exact hk), h]
    simp [fm_fv, upd]
  · rw [List.getElem?_set_ne (Ne.symm e), fm_fl_get, Nat.zero_add]
    cases tm[i]? with
    | none => rfl
    | some o => cases o with
      | none => simp [fm_fv, upd, e]
      | some c => rfl
def fm_ce (w : fm_W) (lay : Nat → fm_L) (σ : fm_M) (c : Nat) : va_E := match lay c with
  | .inl (k, n) => .inl (w.2.1 k, n, if k = 3 then .inr (.inr (.inr (.inr (fun j => some (fm_ad w (c + 1 + 7 * j)))))) else .inl (σ c))
  | .inr (ci, tm) => .inr (ci, fm_fl (fm_ad w) (σ c) 0 tm)
def fm_ws (w : fm_W) (lay : Nat → fm_L) (N : Nat) (σ : fm_M) : va_W := (List.range N).map (fun c => (fm_ad w c, fm_ce w lay σ c))
theorem fm_ws_get {w : fm_W} {lay : Nat → fm_L} {N : Nat} {σ : fm_M} {c : Nat} (h : c < N) : (fm_ws w lay N σ)[c]? = some (fm_ad w c, fm_ce w lay σ c) := by
  simp [fm_ws, h]
theorem fm_ws_len {w : fm_W} {lay : Nat → fm_L} {N : Nat} {σ : fm_M} : (fm_ws w lay N σ).length = N := by simp [fm_ws]
theorem fm_st_ne {σ : fm_M} {c c' : Nat} {f : Nat → Int32} (h : ¬ c' = c) : fm_st σ c f c' = σ c' := by simp [fm_st, h]
theorem fm_st_eq {σ : fm_M} {c : Nat} {f : Nat → Int32} : fm_st σ c f c = f := by simp [fm_st]
theorem fm_ce_st {w : fm_W} {lay : Nat → fm_L} {σ : fm_M} {c c' : Nat} {f : Nat → Int32} (h : ¬ c' = c) : fm_ce w lay (fm_st σ c f) c' = fm_ce w lay σ c' := by
  unfold fm_ce
  rw [fm_st_ne h]
theorem fm_ws_set {w : fm_W} {lay : Nat → fm_L} {N : Nat} {σ : fm_M} {c : Nat} {f : Nat → Int32} {x : va_E} (h : c < N) (hx : x = fm_ce w lay (fm_st σ c f) c) : (fm_ws w lay N σ).set c (fm_ad w c, x) = fm_ws w lay N (fm_st σ c f) := by
  apply List.ext_getElem?
  intro i
  by_cases e : i = c
  · subst e
    rw [List.getElem?_set_self (by rw [fm_ws_len]; exact h), fm_ws_get h, hx]
  · rw [List.getElem?_set_ne (Ne.symm e)]
    by_cases hi : i < N
    · rw [fm_ws_get hi, fm_ws_get hi, fm_ce_st e]
    · simp [fm_ws, hi]
theorem fm_ce_arr {w : fm_W} {lay : Nat → fm_L} {σ : fm_M} {c k n : Nat} (h : lay c = .inl (k, n)) (hk : ¬ k = 3) : fm_ce w lay σ c = .inl (w.2.1 k, n, .inl (σ c)) := by
  unfold fm_ce; rw [h]; simp [hk]
theorem fm_ce_arq {w : fm_W} {lay : Nat → fm_L} {σ : fm_M} {c n : Nat} (h : lay c = .inl (3, n)) : fm_ce w lay σ c = .inl (w.2.1 3, n, .inr (.inr (.inr (.inr (fun j => some (fm_ad w (c + 1 + 7 * j))))))) := by
  unfold fm_ce; rw [h]; simp
theorem fm_ce_obj {w : fm_W} {lay : Nat → fm_L} {σ : fm_M} {c ci : Nat} {tm : List (Option Nat)} (h : lay c = .inr (ci, tm)) : fm_ce w lay σ c = .inr (ci, fm_fl (fm_ad w) (σ c) 0 tm) := by
  unfold fm_ce; rw [h]
-- worlds
def fm_P (w : fm_W) (lay : Nat → fm_L) (N : Nat) (σ : fm_M) (H : Heap) : Prop := va_P w.1 vwCl (fm_ws w lay N σ) H ∧ ∀ j, j < 6 → σ 1000 j = nI j
def fm_I (w : fm_W) (N : Nat) : Prop := N ≤ 1000 ∧ ∀ c d : Nat, c < N → d < N → fm_ad w c = fm_ad w d → c = d
def fm_A (w : fm_W) (N : Nat) : Nat → Prop := fun q => ∃ c, c < N ∧ q = fm_ad w c
theorem fm_ws_of {w : fm_W} {lay : Nat → fm_L} {N : Nat} {σ : fm_M} {i : Nat} {q : Nat × va_E} (h : (fm_ws w lay N σ)[i]? = some q) : i < N ∧ q = (fm_ad w i, fm_ce w lay σ i) := by
  have hi : i < N := by
    have := (List.getElem?_eq_some_iff.mp h).1
    rwa [fm_ws_len] at this
  rw [fm_ws_get hi] at h
  exact ⟨hi, (Option.some.inj h).symm⟩
theorem fm_D {w : fm_W} {lay : Nat → fm_L} {N : Nat} (h : fm_I w N) (σ : fm_M) : va_D (fm_A w N) (fm_ws w lay N σ) := by
  refine ⟨fun i j p q hi hj e => ?_, fun k q hk => ?_⟩
  · obtain ⟨h1, e1⟩ := fm_ws_of hi
    obtain ⟨h2, e2⟩ := fm_ws_of hj
    subst e1; subst e2
    exact h.2 i j h1 h2 e
  · obtain ⟨h1, e1⟩ := fm_ws_of hk
    subst e1
    exact ⟨k, h1, rfl⟩
def fm_ty (w : fm_W) : List (ClassId × FieldType) := [(w.2.1 0, .int), (w.2.1 1, .char), (w.2.1 2, .boolean), (w.2.1 3, .object "SnowSuits$Hall")]
def fm_K (w : fm_W) (N : Nat) (U : State) : Prop := va_K w.1 vwCl (fm_ty w) U ∧ (∀ x ∈ fm_nest, va_Nw x U) ∧ va_Z "SnowSuits" "BY_NUMBER" "[I" (.ref (fm_ad w 1000)) (fm_A w N) U U.heap ∧ va_T .int (fm_ad w 1000) 6 (fun j => .int (nI j)) (fm_A w N) U U.heap
theorem fm_T_moved {ty : FieldType} {t N : Nat} {f : Nat → Value} {A : Nat → Prop} {u U : State} {H : Heap} (hvm : u.vm.Alike U.vm) (h : va_T ty t N f A u H) : va_T ty t N f A U H := by
  obtain ⟨cell, h1, h2, h3, h4⟩ := h
  exact ⟨cell, h1, State.isArrayOf_alike hvm h2, h3, h4⟩
/-- behind instructions and calls of the method that began at s -/
theorem fm_K.on {w : fm_W} {N : Nat} {s U : State} {H : Heap} {locs : List Loc} (h : fm_K w N s) (hS : va_S (fm_A w N) s.heap H locs) (hU : U.heap = H) (hW : s.WarmedH U.vm) : fm_K w N U := by
  obtain ⟨h1, h2, h3, h4⟩ := h
  refine ⟨va_K.moved hW.alike h1, fun x hx => fm_nest_warm (List.mem_filter.mp hx).2 hW (h2 x hx), ?_, ?_⟩
  · rw [hU]; exact (h3.moved hW.alike).kept (fun a h h' => hS.2.1 a h h')
  · rw [hU]; exact (fm_T_moved hW.alike h4).kept (fun a h h' => hS.2.1 a h h')
theorem fm_K.calling {w : fm_W} {N : Nat} {U : State} {g : JFrame} {mk : MethodId} {a : Array Value} (h : fm_K w N U) : fm_K w N (U.calling g mk a) := by
  obtain ⟨h1, h2, h3, h4⟩ := h
  exact ⟨va_K.moved (u := U) (U := U.calling g mk a) (Vm.Alike.refl U.vm) h1, fun x hx => va_Nw.same (fm_nest_on (List.mem_filter.mp hx).2) (u := U) (U := U.calling g mk a) rfl (h2 x hx), va_Z.moved (u := U) (U := U.calling g mk a) (Vm.Alike.refl U.vm) h3, fm_T_moved (u := U) (U := U.calling g mk a) (Vm.Alike.refl U.vm) h4⟩
abbrev fm_O : Type := Option Value × fm_M
def fm_Q (w : fm_W) (lay : Nat → fm_L) (N : Nat) (o : fm_O) : Array Value → State → Outcome → State → Prop := fun _ st oc t => oc = .returned o.1 ∧ fm_P w lay N o.2 t.heap ∧ va_F (fm_A w N) st t
def fm_Pc (w : fm_W) (lay : Nat → fm_L) (N : Nat) (as : List Value) (σ : fm_M) : Array Value → State → Prop := va_Pc as (fun U => fm_P w lay N σ U.heap ∧ fm_K w N U)
/-- a contract: with these arguments, at this memory, the method ends so -/
def fm_C (w : fm_W) (lay : Nat → fm_L) (N : Nat) (l : Launch) (y : MethodName) (cc : ByteArray) (nL : Nat) (ret : Option FieldType) (rm : Room) (as : List Value) (σ : fm_M) (o : fm_O) : Prop :=
  Met l y (.code y cc nL ret :: gw) rm (fm_Pc w lay N as σ) (fm_Q w lay N o) 0 0 (fm_A w N)
def fm_X (w : fm_W) (N : Nat) (cc : ByteArray) (nL : Nat) (own : String) (ret : Option FieldType) (p : Program) (s : State) (m : MethodId) (args : Array Value) (meth : Method) (c : Code) : Prop :=
  p.tables.exec = Jvm.exec ∧ c.code = cc ∧ meth.sig.returnType = ret ∧ c.maxLocals = nL ∧ s.vm.findClass own = some m.cls ∧ (∀ x ∈ gw, x.before args s = true) ∧ meth.locks = false ∧ fm_K w N s ∧ fm_I w N
-- locals by place
def fm_has (ls : Array Slot) (nL : Nat) (lv : List (Option Value)) : Prop := ls.size = nL ∧ lv_wf ls ∧ lv.length = nL ∧ ∀ (i : Nat) (v : Value), lv[i]? = some (some v) → ls[i]? = some (.val v)
def fm_as (lv : List (Option Value)) : List (Nat × Value) := (List.range lv.length).filterMap (fun i => match lv[i]? with | some (some v) => some (i, v) | _ => none)
theorem fm_as_mem {lv : List (Option Value)} {q : Nat × Value} : q ∈ fm_as lv ↔ lv[q.1]? = some (some q.2) := by
  obtain ⟨i, v⟩ := q
  unfold fm_as
  rw [List.mem_filterMap]
  constructor
  · rintro ⟨j, hj, h⟩
    cases hx : lv[j]? with
    | none => rw [hx] at h; cases h
    | some o =>
      cases o with
      | none => rw [hx] at h; cases h
      | some u => rw [hx] at h; cases h; exact hx
  · intro h
    have hi : i < lv.length := (List.getElem?_eq_some_iff.mp h).1
    refine ⟨i, List.mem_range.mpr hi, ?_⟩
    dsimp only at h
    rw [h]
theorem fm_has.to {ls : Array Slot} {nL : Nat} {lv : List (Option Value)} (h : fm_has ls nL lv) : lv_has ls nL (fm_as lv) := ⟨h.1, h.2.1, fun q hq => h.2.2.2 q.1 q.2 (fm_as_mem.mp hq)⟩
/-- no long stands right before place i -/
def fm_c2 (lv : List (Option Value)) : Nat → Bool
  | 0 => true
  | j + 1 => match lv[j]? with
    | some (some v) => v.category != 2
    | _ => true
theorem fm_has.set {ls ls' : Array Slot} {nL i : Nat} {lv : List (Option Value)} {v : Value} (h : fm_has ls nL lv) (hi : i < nL) (h2 : fm_c2 lv i = true) (h' : lv_has ls' nL ((i, v) :: (fm_as lv).filter (fun q => !(q.1 == i) && !(q.1 + 1 == i && q.2.category == 2)))) : fm_has ls' nL (lv.set i (some v)) := by
  obtain ⟨h1, h3, h4⟩ := h'
  refine ⟨h1, h3, by rw [List.length_set]; exact h.2.2.1, fun j u hj => ?_⟩
  by_cases ej : j = i
  · subst ej
    rw [List.getElem?_set_self (by rw [h.2.2.1]; exact hi)] at hj
    cases hj
    exact h4 (j, v) List.mem_cons_self
  · rw [List.getElem?_set_ne (Ne.symm ej)] at hj
    refine h4 (j, u) (List.mem_cons_of_mem _ (List.mem_filter.mpr ⟨fm_as_mem.mpr hj, ?_⟩))
    simp only [Bool.and_eq_true, Bool.not_eq_true', beq_eq_false_iff_ne, ne_eq, Bool.and_eq_false_iff]
    refine ⟨ej, ?_⟩
    by_cases e1 : j + 1 = i
    · right
      subst e1
      simpa [fm_c2, hj] using h2
    · exact Or.inl e1
theorem fm_has.set2 {ls ls' : Array Slot} {nL i : Nat} {lv : List (Option Value)} {v : Value} (h : fm_has ls nL lv) (hi : i + 1 < nL) (h2 : fm_c2 lv i = true) (h' : lv_has ls' nL ((i, v) :: (fm_as lv).filter (fun q => !(q.1 == i) && (!(q.1 == i + 1) && !(q.1 + 1 == i && q.2.category == 2))))) : fm_has ls' nL ((lv.set i (some v)).set (i + 1) none) := by
  obtain ⟨h1, h3, h4⟩ := h'
  refine ⟨h1, h3, by rw [List.length_set, List.length_set]; exact h.2.2.1, fun j u hj => ?_⟩
  by_cases ek : j = i + 1
  · subst ek
    rw [List.getElem?_set_self (by rw [List.length_set, h.2.2.1]; exact hi)] at hj
    cases hj
  rw [List.getElem?_set_ne (Ne.symm ek)] at hj
  by_cases ej : j = i
  · subst ej
    rw [List.getElem?_set_self (by rw [h.2.2.1]; omega)] at hj
    cases hj
    exact h4 (j, v) List.mem_cons_self
  · rw [List.getElem?_set_ne (Ne.symm ej)] at hj
    refine h4 (j, u) (List.mem_cons_of_mem _ (List.mem_filter.mpr ⟨fm_as_mem.mpr hj, ?_⟩))
    simp only [Bool.and_eq_true, Bool.not_eq_true', beq_eq_false_iff_ne, ne_eq, Bool.and_eq_false_iff]
    refine ⟨ej, ek, ?_⟩
    by_cases e1 : j + 1 = i
    · right
      subst e1
      simpa [fm_c2, hj] using h2
    · exact Or.inl e1
theorem fm_has.weaken {ls : Array Slot} {nL : Nat} {lv lv' : List (Option Value)} (h : fm_has ls nL lv) (hl : lv'.length = nL) (hs : ∀ (i : Nat) (v : Value), lv'[i]? = some (some v) → lv[i]? = some (some v)) : fm_has ls nL lv' := ⟨h.1, h.2.1, hl, fun i v hi => h.2.2.2 i v (hs i v hi)⟩
