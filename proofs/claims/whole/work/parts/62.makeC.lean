/-! the making: more rows; the forms that the constructors use -/
section MKD
variable {w : fm_W} {lay : Nat → fm_L} {σ : fm_M} {b0 N : Nat} {l : Launch} {R : Room} {cc : ByteArray} {nL : Nat} {own : String} {Qa : Array Value → State → Outcome → State → Prop} {mc ms n cells slots : Nat} {op op0 : Nat → Option va_E} {pc : Nat} {lv : List (Option Value)} {st : List Value}
theorem k_iload_n {q : Fin 4} (i : Nat) {x : Int32} (hi : (q : Nat) = i) (hl : lv[i]? = some (some (.int x))) (hd : decode cc pc = .ok (.iload_n q, 1)) (k : mk_V w lay σ b0 N l R cc nL own Qa mc ms n cells slots op (pc + 1) lv (.int x :: st)) : mk_V w lay σ b0 N l R cc nL own Qa mc ms n cells slots op pc lv st := by
  intro p e s m args below meth c X hz0 H locs ls hP hS h
  exact lv_iload_n X.1 X.2.1 hd hi (h.2.2.2 _ _ hl) (k p e s m args below meth c X hz0 H locs ls hP hS h)
theorem k_istore_n {q : Fin 4} (i : Nat) {x : Int32} {lv' : List (Option Value)} (hi : (q : Nat) = i) (hn : i < nL) (h2 : fm_c2 lv i = true) (hl : lv.set i (some (.int x)) = lv') (hd : decode cc pc = .ok (.istore_n q, 1)) (k : mk_V w lay σ b0 N l R cc nL own Qa mc ms n cells slots op (pc + 1) lv' st) : mk_V w lay σ b0 N l R cc nL own Qa mc ms n cells slots op pc lv (.int x :: st) := by
  intro p e s m args below meth c X hz0 H locs ls hP hS h
  exact lv_istore_n X.1 X.2.1 hd hi h.to hn rfl (fun ls' h' => k p e s m args below meth c X hz0 H locs ls' hP hS (hl ▸ h.set hn h2 h'))
theorem k_iinc {i : Nat} {n0 : Int} {x : Int32} {lv' : List (Option Value)} (v : Int32) (hd : decode cc pc = .ok (.iinc i n0, 3)) (hx : lv[i]? = some (some (.int x))) (hv : Int32.ofInt n0 = v) (hn : i < nL) (h2 : fm_c2 lv i = true) (hl : lv.set i (some (.int (x + v))) = lv') (k : mk_V w lay σ b0 N l R cc nL own Qa mc ms n cells slots op (pc + 3) lv' st) : mk_V w lay σ b0 N l R cc nL own Qa mc ms n cells slots op pc lv st := by
  intro p e s m args below meth c X hz0 H locs ls hP hS h
  subst hv
  obtain ⟨j, hj⟩ := List.getElem?_of_mem (fm_as_mem (q := (i, .int x)).mpr hx)
  exact lv_iinc X.1 X.2.1 hd h.to hj rfl hn rfl (fun ls' h' => k p e s m args below meth c X hz0 H locs ls' hP hS (hl ▸ h.set hn h2 h'))
theorem k_goto {off : Int} (tgt : Nat) (ht : (pc : Int) + off = (tgt : Int)) (hd : decode cc pc = .ok (.goto off, 3)) (k : mk_V w lay σ b0 N l R cc nL own Qa mc ms n cells slots op tgt lv st) : mk_V w lay σ b0 N l R cc nL own Qa mc ms n cells slots op pc lv st := by
  intro p e s m args below meth c X hz0 H locs ls hP hS h
  exact lv_goto X.1 X.2.1 hd ht (k p e s m args below meth c X hz0 H locs ls hP hS h)
theorem k_icmp_ge {x y : Int32} {off : Int} (tgt : Nat) (ht : (pc : Int) + off = (tgt : Int)) (hd : decode cc pc = .ok (.if_icmp .ge off, 3)) (kt : y ≤ x → mk_V w lay σ b0 N l R cc nL own Qa mc ms n cells slots op tgt lv st) (kf : ¬ y ≤ x → mk_V w lay σ b0 N l R cc nL own Qa mc ms n cells slots op (pc + 3) lv st) : mk_V w lay σ b0 N l R cc nL own Qa mc ms n cells slots op pc lv (.int y :: .int x :: st) := by
  intro p e s m args below meth c X hz0 H locs ls hP hS h
  exact lv_icmp_ge X.1 X.2.1 hd ht (fun q => kt q p e s m args below meth c X hz0 H locs ls hP hS h) (fun q => kf q p e s m args below meth c X hz0 H locs ls hP hS h)
theorem mk_op_op {c : Nat} {e e' : Option va_E} : mk_op (mk_op op c e) c e' = mk_op op c e' := by
  funext i
  by_cases q : i = c
  · simp [mk_op, q]
  · simp [mk_op, q]
theorem mk_op_no {c : Nat} {e : Option va_E} (h : op c = none) : mk_op (mk_op op c e) c none = op := by
  funext i
  by_cases q : i = c
  · subst q; simp [mk_op, h]
  · simp [mk_op, q]
theorem mk_op_eq {c : Nat} {e : Option va_E} : mk_op op c e c = e := by simp [mk_op]
theorem mk_op_ne {c c' : Nat} {e : Option va_E} (h : ¬ c' = c) : mk_op op c e c' = op c' := by simp [mk_op, h]
theorem mk_op_sw {c c' : Nat} {e e' : Option va_E} (h : ¬ c' = c) : mk_op (mk_op op c e) c' e' = mk_op (mk_op op c' e') c e := by
  funext i
  by_cases q : i = c
  · subst q; simp [mk_op, Ne.symm h]
  · simp [mk_op, q]
/-- a final field of the class itself -/
def fm_qf (own : String) (idx ci k : Nat) (ty : FieldType) : Prop := ∃ (C : String) (T : u_T) (M : Nat) (ty0 : Nat → FieldType), vwCl[ci]? = some (C, T, M) ∧ (∀ x ∈ u_ws C T M, x ∈ gw) ∧ k < M ∧ Cond.fieldLink own idx (T k).1 (T k).2.1 (T k).2.2.1 ∈ gw ∧ (∀ k, k < M → parseFieldDescriptor (T k).2.2.1 = some (ty0 k)) ∧ (∀ a, a < M → ∀ b, b < M → a ≠ b → (T a).2.1 ≠ (T b).2.1) ∧ (T k).2.2.2 = true ∧ (T k).1 = own ∧ parseFieldDescriptor (T k).2.2.1 = some ty
/-- new: the class, and its fields' first values -/
def fm_nw (own : String) (idx ci M : Nat) (fs : List Value) : Prop := ∃ (C : String) (T : u_T) (ty0 : Nat → FieldType), vwCl[ci]? = some (C, T, M) ∧ (∀ x ∈ u_ws C T M, x ∈ gw) ∧ (∀ k, k < M → parseFieldDescriptor (T k).2.2.1 = some (ty0 k)) ∧ Cond.classLink own idx C ∈ gw ∧ Cond.instantiable C M ∈ gw ∧ Cond.initialized C ∈ gw ∧ ∀ j, j < M → defaultValue (ty0 j) = vp_V fs j
theorem j_putF {a ci kf idx : Nat} {fs : List Value} {ty : FieldType} {v : Value} (hg : fm_qf own idx ci kf ty) (hv : narrow ty v = v) (hfit : fits ty v = true) (hlen : kf < fs.length) (haN : a < n) (hnN : n ≤ N)
    (hd : decode cc pc = .ok (.putfield idx, 3)) (k : mk_V w lay σ b0 N l R cc nL own Qa mc ms n cells slots (mk_op op0 a (some (.inr (ci, fs.set kf v)))) (pc + 3) lv st) : mk_V w lay σ b0 N l R cc nL own Qa mc ms n cells slots (mk_op op0 a (some (.inr (ci, fs)))) pc lv (v :: .ref (fm_ad w a) :: st) := by
  obtain ⟨C, T, M, ty0, g1, g2, g3, g4, g5, g6, g7, g8, g9⟩ := hg
  refine k_putF g1 g2 g5 g6 g3 g4 g7 g8 g9 hv hfit hlen haN hnN mk_op_eq hd ?_
  rw [mk_op_op]
  exact k
theorem j_put {a ci kf idx : Nat} {fs : List Value} {ty : FieldType} {v : Value} (hg : fm_pf own idx ci kf ty) (hv : narrow ty v = v) (hfit : fits ty v = true) (hlen : kf < fs.length) (haN : a < n) (hnN : n ≤ N)
    (hd : decode cc pc = .ok (.putfield idx, 3)) (k : mk_V w lay σ b0 N l R cc nL own Qa mc ms n cells slots (mk_op op0 a (some (.inr (ci, fs.set kf v)))) (pc + 3) lv st) : mk_V w lay σ b0 N l R cc nL own Qa mc ms n cells slots (mk_op op0 a (some (.inr (ci, fs)))) pc lv (v :: .ref (fm_ad w a) :: st) := by
  refine k_put hg hv hfit hlen haN hnN mk_op_eq hd ?_
  rw [mk_op_op]
  exact k
theorem j_get {a ci kf idx : Nat} {fs : List Value} {v : Value} (hg : fm_gf own idx ci kf) (haN : a < n) (hv : fs[kf]? = some v)
    (hd : decode cc pc = .ok (.getfield idx, 3)) (k : mk_V w lay σ b0 N l R cc nL own Qa mc ms n cells slots (mk_op op0 a (some (.inr (ci, fs)))) (pc + 3) lv (v :: st)) : mk_V w lay σ b0 N l R cc nL own Qa mc ms n cells slots (mk_op op0 a (some (.inr (ci, fs)))) pc lv (.ref (fm_ad w a) :: st) := k_get hg haN mk_op_eq hv hd k
theorem j_close {a : Nat} {e : va_E} (h0 : op0 a = none) (h : e = fm_ce w lay σ a) (k : mk_V w lay σ b0 N l R cc nL own Qa mc ms n cells slots op0 pc lv st) : mk_V w lay σ b0 N l R cc nL own Qa mc ms n cells slots (mk_op op0 a (some e)) pc lv st := by
  refine k_close (a := a) (by rw [mk_op_eq, h]) ?_
  rw [mk_op_no h0]
  exact k
theorem j_new {ci M idx : Nat} {fs : List Value} (hg : fm_nw own idx ci M fs) (hnN : n < N) (hcells : cells + 1 ≤ R.cells) (hslots : slots + M ≤ R.slots)
    (hd : decode cc pc = .ok (.new idx, 3)) (k : mk_V w lay σ b0 N l R cc nL own Qa mc ms (n + 1) (cells + 1) (slots + M) (mk_op op n (some (.inr (ci, fs)))) (pc + 3) lv (.ref (fm_ad w n) :: st)) : mk_V w lay σ b0 N l R cc nL own Qa mc ms n cells slots op pc lv st := by
  obtain ⟨C, T, ty0, g1, g2, g3, g4, g5, g6, g7⟩ := hg
  exact k_new g1 g2 g3 g4 g5 g6 g7 hnN hcells hslots hd k
theorem j_newi {x : Int32} (M : Nat) (hw : Cond.arrayClass .int ∈ gw) (hlay : lay n = .inl (0, M)) (hz : σ n = fun _ => 0) (hop : op n = none) (hnN : n < N) (hx : ¬ x < 0) (hM : x.toNatClampNeg = M) (hbytes : M * 4 ≤ 536870912) (hcells : cells + 1 ≤ R.cells) (hslots : slots + M ≤ R.slots)
    (hd : decode cc pc = .ok (.newarray .int, 2)) (k : mk_V w lay σ b0 N l R cc nL own Qa mc ms (n + 1) (cells + 1) (slots + M) op (pc + 2) lv (.ref (fm_ad w n) :: st)) : mk_V w lay σ b0 N l R cc nL own Qa mc ms n cells slots op pc lv (.int x :: st) :=
  k_newa (atype := .int) (ty := .int) (kt := 0) rfl (by decide) (fun _ => rfl) hw rfl (fun _ h => by cases h) hlay hz hop hnN hx hM hbytes hcells hslots hd k
theorem k_anew {idx M : Nat} {x : Int32} (hcl : Cond.classLink own idx "SnowSuits$Hall" ∈ gw) (hnN : n < N) (hx : ¬ x < 0) (hM : x.toNatClampNeg = M) (hbytes : M * 4 ≤ 536870912) (hcells : cells + 1 ≤ R.cells) (hslots : slots + M ≤ R.slots)
    (hd : decode cc pc = .ok (.anewarray idx, 3)) (k : mk_V w lay σ b0 N l R cc nL own Qa mc ms (n + 1) (cells + 1) (slots + M) (mk_op op n (some (.inl (w.2.1 3, M, .inr (.inr (.inr (.inr (fun _ => none)))))))) (pc + 3) lv (.ref (fm_ad w n) :: st)) : mk_V w lay σ b0 N l R cc nL own Qa mc ms n cells slots op pc lv (.int x :: st) := by
  intro p e s m args below meth c X hz0 H locs ls hP hS h
  have hB := X.2.2.2.2.2.2.2.2.1
  have hK := X.2.2.2.2.2.2.2.1
  have hts := X.2.2.2.2.2.1
  refine mk_size hz0 hB (Nat.le_of_lt hnN) hP (fun hsz => ?_)
  subst hM
  refine W.anew X.1 X.2.1 X.2.2.2.2.1 (hts _ hcl) (va_AO.use hK.2.2.2.2.1) rfl hd rfl hx hbytes hcells hslots fun cA kA comp f1 f2 f3 f4 => ?_
  have hcA : cA = w.2.1 3 := by
    obtain ⟨kA', comp', -, -, -, h2⟩ := (hK.1.2 3 (w.2.1 3, .object "SnowSuits$Hall") rfl).2
    rw [f1] at h2
    exact Option.some.inj h2
  generalize hH1 : H.push ({ cls := cA, slots := Array.replicate x.toNatClampNeg .null, vm := .none } : Cell) = H1
  have z1 : H1.size = H.size + 1 := by rw [← hH1, Array.size_push]
  have e1 : H1[H.size]? = some (arrV cA x.toNatClampNeg (fun _ => .null)) := by rw [← hH1, Array.getElem?_push_size, ← arrV_new]
  have o1 : ∀ q : Nat, q < H.size → H1[q]? = H[q]? := fun q hq => by rw [← hH1, Array.getElem?_push, if_neg (Nat.ne_of_lt hq)]
  have had : fm_ad w n = H.size := by rw [hB.2 n hnN, hsz]
  have hk : ∀ (i : Nat) (q : Nat × va_E), (mk_W w lay σ n op)[i]? = some q → H1[q.1]? = H[q.1]? := fun i q hq => o1 q.1 ((hP.1 i q hq).lt)
  refine W.eq (g2 := F0 m (pc + 3) ls (.ref (fm_ad w n) :: st)) (by rw [had]) ?_
  refine k p e s m args below meth c X (by omega) H1 locs ls ⟨?_, by omega⟩ ⟨Nat.le_trans hS.1 (by omega), fun q h1 h2 => (o1 q (Nat.lt_of_lt_of_le h1 hS.1)).trans (hS.2.1 q h1 h2), hS.2.2⟩ h
  rw [mk_W_s, mk_W_cg (op' := op) (fun c hc => by simp [mk_op, Nat.ne_of_lt hc])]
  refine (hP.1.kept hk).app (fun i q hq => ?_)
  have hz0 : i < 1 := (List.getElem?_eq_some_iff.mp hq).1
  rw [show i = 0 by omega] at hq
  cases hq
  rw [mk_op_eq, Option.getD_some, had]
  show H1[H.size]? = some (vp_cell _ _)
  rw [vp_cell_q, e1, hcA]
  rfl
theorem k_qlen {a M : Nat} {x : (Nat → Int32) ⊕ (Nat → Int64) ⊕ (Nat → UInt32) ⊕ (Nat → UInt64) ⊕ (Nat → Option Nat)} (v : Int32) (haN : a < n) (hop : op a = some (.inl (w.2.1 3, M, x))) (hv : Int32.ofNat M = v)
    (hd : decode cc pc = .ok (.arraylength, 1)) (k : mk_V w lay σ b0 N l R cc nL own Qa mc ms n cells slots op (pc + 1) lv (.int v :: st)) : mk_V w lay σ b0 N l R cc nL own Qa mc ms n cells slots op pc lv (.ref (fm_ad w a) :: st) := by
  intro p e s m args below meth c X hz0 H locs ls hP hS h
  exact va_alen X.1 X.2.1 X.2.2.2.2.2.2.2.1.1 hP.1 a 3 (x := (M, x)) (by rw [mk_W_get haN, hop]; rfl) (ty := .object "SnowSuits$Hall") rfl hv hd (k p e s m args below meth c X hz0 H locs ls hP hS h)
theorem k_astq {a b M : Nat} {f : Nat → Option Nat} {vs : List Value} {i : Int32} (haN : a < n) (hnN : n ≤ N) (hop : op a = some (.inl (w.2.1 3, M, .inr (.inr (.inr (.inr f)))))) (hbn : b < n) (hob : (op b).getD (fm_ce w lay σ b) = .inr (1, vs)) (hi : fm_in i M = true)
    (hd : decode cc pc = .ok (.aastore, 1)) (k : mk_V w lay σ b0 N l R cc nL own Qa mc ms n cells slots (mk_op op a (some (.inl (w.2.1 3, M, .inr (.inr (.inr (.inr (va_up f i.toNatClampNeg (some (fm_ad w b)))))))))) (pc + 1) lv st) : mk_V w lay σ b0 N l R cc nL own Qa mc ms n cells slots op pc lv (.ref (fm_ad w b) :: .int i :: .ref (fm_ad w a) :: st) := by
  intro p e s m args below meth c X hz0 H locs ls hP hS h
  have hB := X.2.2.2.2.2.2.2.2.1
  have ha : (mk_W w lay σ n op)[a]? = some (fm_ad w a, .inl (w.2.1 3, M, .inr (.inr (.inr (.inr f))))) := by rw [mk_W_get haN, hop]; rfl
  have hv : (mk_W w lay σ n op)[b]? = some (fm_ad w b, .inr (1, vs)) := by rw [mk_W_get hbn, hob]
  refine va_astq (r := (RX2, TX2, 11)) X.1 X.2.1 X.2.2.2.2.2.2.2.1.1 hP.1 (mk_D hB hnN) hS a 3 b 1 ha rfl hv rfl (fm_in_vp hi) hd (fun H1 locs1 hP1 _ hS1 => ?_)
  exact k p e s m args below meth c X hz0 H1 locs1 ls ⟨by rw [← mk_W_set haN]; exact hP1, hP.2⟩ hS1 h
theorem arrV_cg {cI : ClassId} {M : Nat} {f g : Nat → Value} (h : ∀ j, j < M → f j = g j) : arrV cI M f = arrV cI M g := by
  unfold arrV
  congr 1
  apply Array.ext
  · simp
  · intro i h1 h2
    simp at h1
    simp [h i h1]
theorem k_closeq {a M : Nat} {f : Nat → Option Nat} (hlay : lay a = .inl (3, M)) (haN : a < n) (hop : op a = some (.inl (w.2.1 3, M, .inr (.inr (.inr (.inr f)))))) (hf : ∀ j, j < M → f j = some (fm_ad w (a + 1 + 7 * j))) (k : mk_V w lay σ b0 N l R cc nL own Qa mc ms n cells slots (mk_op op a none) pc lv st) : mk_V w lay σ b0 N l R cc nL own Qa mc ms n cells slots op pc lv st := by
  intro p e s m args below meth c X hz0 H locs ls hP hS hl
  refine k p e s m args below meth c X hz0 H locs ls ⟨fun i q hq => ?_, hP.2⟩ hS hl
  have hi : i < n := by
    have := (List.getElem?_eq_some_iff.mp hq).1
    rwa [mk_W_len] at this
  rw [mk_W_get hi] at hq
  by_cases e : i = a
  · subst e
    rw [mk_op_eq, Option.getD_none, fm_ce_arq hlay] at hq
    cases hq
    have h1 := hP.1 i _ (mk_W_get hi)
    rw [hop, Option.getD_some] at h1
    have h2 : H[fm_ad w i]? = some (vp_cell (w.2.1 3) (M, .inr (.inr (.inr (.inr f))))) := h1
    show H[fm_ad w i]? = some (vp_cell _ _)
    rw [h2, vp_cell_q, vp_cell_q, arrV_cg (fun j hj => by rw [hf j hj])]
  · rw [mk_op_ne e] at hq
    exact hP.1 i q (by rw [mk_W_get hi]; exact hq)
theorem k_mmax {idx : Nat} {x y : Int32} (v : Int32) (hw : fm_mmw own idx Lib.Math.max.name Lib.Math.max.code) (hv : (if x < y then y else x) = v) (hR : 1 ≤ R.frames ∧ (st.map fun v => v.category).sum + 13 ≤ R.locals) (hcs : cells ≤ R.cells ∧ slots ≤ R.slots) (hd : decode cc pc = .ok (.invokestatic idx, 3)) (k : mk_V w lay σ b0 N l R cc nL own Qa mc ms n cells slots op (pc + 3) lv (.int v :: st)) : mk_V w lay σ b0 N l R cc nL own Qa mc ms n cells slots op pc lv (.int y :: .int x :: st) := by
  intro p e s m args below meth c X hz0 H locs ls hP hS h
  subst hv
  exact va_mmax X.1 X.2.1 (by rw [X.2.2.2.1, h.1]) X.2.2.2.2.1 (X.2.2.2.2.2.1 _ hw.1) (X.2.2.2.2.2.1 _ hw.2.1) (X.2.2.2.2.2.1 _ hw.2.2.1) (X.2.2.2.2.2.1 _ hw.2.2.2) hR.1 hR.2 hcs.1 hcs.2 hd (k p e s m args below meth c X hz0 H locs ls hP hS h)
end MKD
