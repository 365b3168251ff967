/-! the making: Object's own constructor, calls -/
section MKC
variable {w : fm_W} {lay : Nat → fm_L} {σ : fm_M} {b0 N : Nat} {l : Launch} {R : Room} {cc : ByteArray} {nL : Nat} {own : String} {Qa : Array Value → State → Outcome → State → Prop} {mc ms n cells slots : Nat} {op : Nat → Option va_E} {pc : Nat} {lv lv' : List (Option Value)} {st : List Value}
theorem k_close {a : Nat} (h : op a = some (fm_ce w lay σ a)) (k : mk_V w lay σ b0 N l R cc nL own Qa mc ms n cells slots (mk_op op a none) pc lv st) : mk_V w lay σ b0 N l R cc nL own Qa mc ms n cells slots op pc lv st := by
  intro p e s m args below meth c X hz0 H locs ls hP hS hl
  refine k p e s m args below meth c X hz0 H locs ls ⟨?_, hP.2⟩ hS hl
  rw [mk_W_cg (op' := op) (fun c _ => ?_)]
  · exact hP.1
  · by_cases e : c = a
    · subst e; simp [mk_op, h]
    · simp [mk_op, e]
theorem k_sipush {i : Int} (v : Int32) (hd : decode cc pc = .ok (.sipush i, 3)) (hv : (Int16.ofInt i).toInt32 = v) (k : mk_V w lay σ b0 N l R cc nL own Qa mc ms n cells slots op (pc + 3) lv (.int v :: st)) : mk_V w lay σ b0 N l R cc nL own Qa mc ms n cells slots op pc lv st := by
  intro p e s m args below meth c X hz0 H locs ls hP hS hl
  exact lv_sipush X.1 X.2.1 hd hv (k p e s m args below meth c X hz0 H locs ls hP hS hl)
theorem k_obj {idx a : Nat} (h1 : Cond.methodLink own idx objectInit ∈ gw) (h2 : Cond.instanceMethod objectInit ∈ gw) (h3 : Cond.code objectInit ⟨#[0xb1]⟩ 1 none ∈ gw) (hd : decode cc pc = .ok (.invokespecial idx, 3)) (hf : 1 ≤ R.frames) (hlo : 20 ≤ R.locals) (k : mk_V w lay σ b0 N l R cc nL own Qa mc ms n cells slots op (pc + 3) lv []) : mk_V w lay σ b0 N l R cc nL own Qa mc ms n cells slots op pc lv [.ref a] := by
  intro p e s m args below meth c X hz0 H locs ls hP hS h
  have hts := X.2.2.2.2.2.1
  refine W.objInit X.1 X.2.1 X.2.2.2.2.1 (hts _ h1) (hts _ h2) (hts _ h3) rfl (by rw [X.2.2.2.1]; exact h.1) rfl hd (by omega) (by
    have h0 : (F0 m pc ls [Value.ref a]).monitorRoom = 0 := rfl
    rw [h0]
    simp
    omega) ?_
  exact W.eq (g2 := F0 m (pc + 3) ls []) rfl (k p e s m args below meth c X hz0 H locs ls hP hS h)
/-- a constructor's contract -/
def mk_C (w : fm_W) (lay : Nat → fm_L) (σ : fm_M) (b0 N : Nat) (l : Launch) (y : MethodName) (cc : ByteArray) (nL : Nat) (rm : Room) (as : List Value) (n : Nat) (op : Nat → Option va_E) (Qa : Array Value → State → Outcome → State → Prop) (mc ms : Nat) : Prop :=
  Met l y (.code y cc nL none :: gw) rm (va_Pc as (fun U => mk_P w lay σ b0 n op U.heap ∧ mk_K w b0 U ∧ U.heap.size = b0 + n)) Qa mc ms (mk_A b0)
theorem mk_of {y : MethodName} {rm : Room} {as : List Value} (hB : mk_B w b0 N) (hy : plainName y.cls = true) (hini : y.name = "<init>") (hc : ∀ v ∈ as, v.category = 1) (hn : as.length ≤ nL) (hV : mk_V w lay σ b0 N l rm cc nL y.cls Qa mc ms n 0 0 op 0 (as.map some ++ List.replicate (nL - as.length) none) []) : mk_C w lay σ b0 N l y cc nL rm as n op Qa mc ms := by
  refine Met.ofW (cc := cc) (maxL := nL) (ret := none) hy rfl ?_
  intro p e s m args below meth c s₁ B hml hv
  obtain ⟨rfl, hP, hK, hsz⟩ := hv
  have hts := atoms_spec (ws := .code y cc nL none :: gw) B.pre
  have hsl : ∀ (vs : List Value), (∀ v ∈ vs, v.category = 1) → (lg_sl vs).length = vs.length := by
    intro vs
    induction vs with
    | nil => intro _; rfl
    | cons v t ih =>
      intro h
      have h1 := h v List.mem_cons_self
      simp only [lg_sl, List.flatMap_cons, List.length_append, List.length_cons] at ih ⊢
      rw [ih (fun u hu => h u (List.mem_cons_of_mem _ hu))]
      simp [h1]; omega
  have hla : ∀ (vs : List Value) (j : Nat), (∀ v ∈ vs, v.category = 1) → ∀ (i : Nat) (v : Value), vs[i]? = some v → (j + i, v) ∈ lv_args j vs := by
    intro vs
    induction vs with
    | nil => intro j _ i v h; simp at h
    | cons u t ih =>
      intro j h i v hi
      have h1 := h u List.mem_cons_self
      cases i with
      | zero => simp at hi; subst hi; simp [lv_args]
      | succ i =>
        simp at hi
        have h2 := ih (j + 1) (fun x hx => h x (List.mem_cons_of_mem _ hx)) i v hi
        simp only [lv_args, h1]
        rw [show j + (i + 1) = j + 1 + i by omega]
        exact List.mem_cons_of_mem _ (by simpa using h2)
  rw [lg_entry_eq]
  have hl := lv_entry as (n := nL) (by rw [hsl as hc]; exact hn)
  refine hV p e s m as.toArray below meth c ⟨B.exec, B.bytes, B.returns, hml, findClass_of_methodNamed B.named, fun x hx => hts x (List.mem_cons_of_mem _ hx), B.notSynchronized, hK, hB, by rw [← hini]; exact (name_of_methodNamed B.named B.method).1⟩ (by omega) s.heap [] _ hP va_S.rf ⟨hl.1, hl.2.1, by simp; omega, fun i v hi => ?_⟩
  have hi' : as[i]? = some v := by
    by_cases hq : i < as.length
    · rw [List.getElem?_append_left (by simpa using hq), List.getElem?_map] at hi
      cases hx : as[i]? with
      | none => rw [hx] at hi; cases hi
      | some u => rw [hx] at hi; cases hi; rfl
    · rw [List.getElem?_append_right (by simpa using hq), List.getElem?_replicate] at hi
      split at hi <;> cases hi
  have := hl.2.2 _ (hla as 0 hc i v hi')
  simpa using this
theorem mk_K.on {s U : State} {H : Heap} {locs : List Loc} (h : mk_K w b0 s) (hS : va_S (mk_A b0) s.heap H locs) (hU : U.heap = H) (hW : s.WarmedH U.vm) : mk_K w b0 U := by
  obtain ⟨h1, h2, h3, h4, h5, j, h6⟩ := h
  refine ⟨va_K.moved hW.alike h1, fun x hx => fm_nest_warm (List.mem_filter.mp hx).2 hW (h2 x hx), ?_, ?_, h5.moved hW.alike, j, h6.on hS hU hW⟩
  · rw [hU]; exact (h3.moved hW.alike).kept (fun a h h' => hS.2.1 a h h')
  · rw [hU]; exact (fm_T_moved hW.alike h4).kept (fun a h h' => hS.2.1 a h h')
theorem mk_K.calling {U : State} {g : JFrame} {mk : MethodId} {a : Array Value} (h : mk_K w b0 U) : mk_K w b0 (U.calling g mk a) := by
  obtain ⟨h1, h2, h3, h4, h5, j, h6⟩ := h
  exact ⟨va_K.moved (u := U) (U := U.calling g mk a) (Vm.Alike.refl U.vm) h1, fun x hx => va_Nw.same (fm_nest_on (List.mem_filter.mp hx).2) (u := U) (U := U.calling g mk a) rfl (h2 x hx), va_Z.moved (u := U) (U := U.calling g mk a) (Vm.Alike.refl U.vm) h3, fm_T_moved (u := U) (U := U.calling g mk a) (Vm.Alike.refl U.vm) h4, va_AO.moved (u := U) (U := U.calling g mk a) (Vm.Alike.refl U.vm) h5, j, h6.calling⟩
theorem k_call {idx : Nat} {y : MethodName} {c2 : ByteArray} {nL2 na b n2 mc2 ms2 : Nat} {op2 : Nat → Option va_E} {rm : Room} (As rest : List Value) (hL : fm_lw own idx y c2 nL2 none na) (hi : Cond.instanceMethod y ∈ gw) (hy : y.name = "<init>") (hC : mk_C w lay σ b0 N l y c2 nL2 rm (.ref (fm_ad w b) :: As) n op (mk_Q w lay σ b0 n2 op2) mc2 ms2) (hc2 : n2 = n + mc2) (hnN : n ≤ N) (hn : As.length = na) (hst : st = As.reverse ++ .ref (fm_ad w b) :: rest) (hR : rm.cells = mc2 ∧ rm.slots = ms2 ∧ rm.frames + 1 ≤ R.frames ∧ 8 + (nL2 + 11) + rm.locals ≤ R.locals) (hW : (rest.map fun v => v.category).sum ≤ 8) (hcs : cells + mc2 ≤ R.cells ∧ slots + ms2 ≤ R.slots)
    (hd : decode cc pc = .ok (.invokespecial idx, 3)) (k : mk_V w lay σ b0 N l R cc nL own Qa mc ms n2 (cells + mc2) (slots + ms2) op2 (pc + 3) lv rest) : mk_V w lay σ b0 N l R cc nL own Qa mc ms n cells slots op pc lv st := by
  intro p e s m args below meth c X hz0 H locs ls hP hS h
  obtain ⟨w1, w2, w3, w4⟩ := hL
  have hg := X.2.2.2.2.2.1
  have hB := X.2.2.2.2.2.2.2.2.1
  refine mk_size hz0 hB hnN hP (fun hsz => ?_)
  have hCB : CallB R s args own idx y c2 nL2 none (.code y c2 nL2 none :: gw) rm mc2 ms2 na := callB_of (Ts := gw) na hg (gw_good w1 (fun _ h => h)) rfl hR.1 hR.2.1 (hg _ w2) (hg _ w3) w4 hR.2.2
  refine va_callv (A1 := mk_A b0) (va_runI (Ts := gw) (As := As) (rest := rest) ⟨X.1, X.2.1, X.2.2.2.1, X.2.2.2.2.1, hg⟩ hC ⟨hCB, hy, hg _ hi⟩ ⟨fun a U g mk q => ?_, fun U hU hW' => ⟨rfl, by rw [hU]; exact hP, X.2.2.2.2.2.2.2.1.on hS hU hW', by rw [hU]; exact hsz⟩⟩ rfl hn h.1 hst (lv_room hW) hd hcs) hS (fun q _ h9 => h9) (fun q h9 => h9) (fun u t H1 locs1 ht hvm _ hB1 _ _ hS1 => ?_)
  · obtain ⟨q0, q1, q2, q3⟩ := q
    exact ⟨q0, q1, q2.calling, q3⟩
  · rw [ht] at hB1
    exact k p e s m args below meth c X (by omega) H1 locs1 ls hB1 hS1 h
theorem k_callN {idx : Nat} {host : String} {y : MethodName} {c2 : ByteArray} {nL2 na b n2 mc2 ms2 : Nat} {op2 : Nat → Option va_E} {rm : Room} (As rest : List Value) (w1 : Cond.code y c2 nL2 none ∈ gw) (w2 : Cond.initialized y.cls ∈ gw) (w3 : Cond.methodLinkNest own idx y host ∈ fm_nest) (w4 : y.cls ≠ "java/lang/invoke/MethodHandle" ∧ y.cls ≠ "java/lang/invoke/VarHandle" ∧ (parseMethodDescriptor y.desc).map (fun d => d.parameters.length) = some na) (hi : Cond.instanceMethod y ∈ gw) (hy : y.name = "<init>") (hC : mk_C w lay σ b0 N l y c2 nL2 rm (.ref (fm_ad w b) :: As) n op (mk_Q w lay σ b0 n2 op2) mc2 ms2) (hc2 : n2 = n + mc2) (hnN : n ≤ N) (hn : As.length = na) (hst : st = As.reverse ++ .ref (fm_ad w b) :: rest) (hR : rm.cells = mc2 ∧ rm.slots = ms2 ∧ rm.frames + 1 ≤ R.frames ∧ 8 + (nL2 + 11) + rm.locals ≤ R.locals) (hW : (rest.map fun v => v.category).sum ≤ 8) (hcs : cells + mc2 ≤ R.cells ∧ slots + ms2 ≤ R.slots)
    (hd : decode cc pc = .ok (.invokespecial idx, 3)) (k : mk_V w lay σ b0 N l R cc nL own Qa mc ms n2 (cells + mc2) (slots + ms2) op2 (pc + 3) lv rest) : mk_V w lay σ b0 N l R cc nL own Qa mc ms n cells slots op pc lv st := by
  intro p e s m args below meth c X hz0 H locs ls hP hS h
  have hg := X.2.2.2.2.2.1
  have hB := X.2.2.2.2.2.2.2.2.1
  refine mk_size hz0 hB hnN hP (fun hsz => ?_)
  have hCB : va_CN R s args own idx y host c2 nL2 none (.code y c2 nL2 none :: gw) rm mc2 ms2 na := va_cnB (Ts := gw) na hg (gw_good w1 (fun _ h => h)) rfl hR.1 hR.2.1 (X.2.2.2.2.2.2.2.1.2.1 _ w3) (hg _ w2) w4 hR.2.2
  refine va_callv (A1 := mk_A b0) (va_runIN (Ts := gw) (As := As) (rest := rest) ⟨X.1, X.2.1, X.2.2.2.1, X.2.2.2.2.1, hg⟩ hC ⟨hCB, hy, hg _ hi⟩ ⟨fun a U g mk q => ?_, fun U hU hW' => ⟨rfl, by rw [hU]; exact hP, X.2.2.2.2.2.2.2.1.on hS hU hW', by rw [hU]; exact hsz⟩⟩ rfl hn h.1 hst (lv_room hW) hd hcs) hS (fun q _ h9 => h9) (fun q h9 => h9) (fun u t H1 locs1 ht hvm _ hB1 _ _ hS1 => ?_)
  · obtain ⟨q0, q1, q2, q3⟩ := q
    exact ⟨q0, q1, q2.calling, q3⟩
  · rw [ht] at hB1
    exact k p e s m args below meth c X (by omega) H1 locs1 ls hB1 hS1 h
theorem k_put {a ci kf idx : Nat} {fs : List Value} {ty : FieldType} {v : Value} (hg : fm_pf own idx ci kf ty) (hv : narrow ty v = v) (hfit : fits ty v = true) (hlen : kf < fs.length) (haN : a < n) (hnN : n ≤ N) (hop : op a = some (.inr (ci, fs)))
    (hd : decode cc pc = .ok (.putfield idx, 3)) (k : mk_V w lay σ b0 N l R cc nL own Qa mc ms n cells slots (mk_op op a (some (.inr (ci, fs.set kf v)))) (pc + 3) lv st) : mk_V w lay σ b0 N l R cc nL own Qa mc ms n cells slots op pc lv (v :: .ref (fm_ad w a) :: st) := by
  intro p e s m args below meth c X hz0 H locs ls hP hS h
  have hB := X.2.2.2.2.2.2.2.2.1
  have hK := X.2.2.2.2.2.2.2.1
  have hts := X.2.2.2.2.2.1
  obtain ⟨C, T, M, ty0, g1, g2, g3, g4, g5, g6, g7, g8⟩ := hg
  have he : (mk_W w lay σ n op)[a]? = some (fm_ad w a, .inr (ci, fs)) := by rw [mk_W_get haN, hop]; rfl
  have fin : ∀ (H1 : Heap) (locs1 : List Loc), va_P w.1 vwCl ((mk_W w lay σ n op).set a (fm_ad w a, .inr (ci, fs.set kf v))) H1 → va_S (mk_A b0) s.heap H1 locs1 → W p l e R s m args below meth c H1 locs1 cells slots (MQ below Qa args s mc ms (mk_A b0)) (F0 m (pc + 3) ls st) := by
    intro H1 locs1 hP1 hS1
    exact k p e s m args below meth c X hz0 H1 locs1 ls ⟨by rw [← mk_W_set haN]; exact hP1, hP.2⟩ hS1 h
  rcases g4 with g4 | ⟨host, g4⟩
  · exact va_put X.1 X.2.1 hts g2 ty0 g5 g6 X.2.2.2.2.1 hK.1 hP.1 (mk_D hB hnN) hS a he g1 _ g3 (hts _ g4) (fun _ h => h) g7 g8 hv hfit hlen hd (fun H1 locs1 hP1 _ hS1 => fin H1 locs1 hP1 hS1)
  · exact va_putN X.1 X.2.1 hts g2 ty0 g5 g6 X.2.2.2.2.1 hK.1 hP.1 (mk_D hB hnN) hS a he g1 _ g3 (va_Nw.use rfl (hK.2.1 _ g4)) (fun _ h => h) g7 g8 hv hfit hlen hd (fun H1 locs1 hP1 _ hS1 => fin H1 locs1 hP1 hS1)
theorem k_get {a ci kf idx : Nat} {fs : List Value} {v : Value} (hg : fm_gf own idx ci kf) (haN : a < n) (hop : op a = some (.inr (ci, fs))) (hv : fs[kf]? = some v)
    (hd : decode cc pc = .ok (.getfield idx, 3)) (k : mk_V w lay σ b0 N l R cc nL own Qa mc ms n cells slots op (pc + 3) lv (v :: st)) : mk_V w lay σ b0 N l R cc nL own Qa mc ms n cells slots op pc lv (.ref (fm_ad w a) :: st) := by
  intro p e s m args below meth c X hz0 H locs ls hP hS h
  have hK := X.2.2.2.2.2.2.2.1
  have hts := X.2.2.2.2.2.1
  obtain ⟨C, T, M, g1, g2, g3, g4⟩ := hg
  have he : (mk_W w lay σ n op)[a]? = some (fm_ad w a, .inr (ci, fs)) := by rw [mk_W_get haN, hop]; rfl
  rcases g4 with g4 | ⟨host, g4⟩
  · exact va_get X.1 X.2.1 hts g2 X.2.2.2.2.1 hK.1 hP.1 a he g1 _ g3 (hts _ g4) (fun _ h => h) hv hd (k p e s m args below meth c X hz0 H locs ls hP hS h)
  · exact va_getN X.1 X.2.1 hts g2 X.2.2.2.2.1 hK.1 hP.1 a he g1 _ g3 (va_Nw.use rfl (hK.2.1 _ g4)) (fun _ h => h) hv hd (k p e s m args below meth c X hz0 H locs ls hP hS h)
end MKC
