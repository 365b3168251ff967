/-! all cells of a system stand: the constructor goes on over the flat memory -/
def mk_F (w : fm_W) (lay : Nat → fm_L) (b0 N : Nat) (l : Launch) (R : Room) (cc : ByteArray) (nL : Nat) (own : String) (Qa : Array Value → State → Outcome → State → Prop) (mc ms cells slots : Nat) (τ : fm_M) (pc : Nat) (lv : List (Option Value)) (st : List Value) : Prop :=
  ∀ (p : Program) (e : Env) (s : State) (m : MethodId) (args : Array Value) (below : List Frame) (meth : Method) (c : Code), mk_X w b0 N cc nL own p s m args meth c → s.heap.size + cells = b0 + N → ∀ (H : Heap) (locs : List Loc) (ls : Array Slot), fm_P w lay N τ H → va_S (mk_A b0) s.heap H locs → fm_has ls nL lv →
    W p l e R s m args below meth c H locs cells slots (MQ below Qa args s mc ms (mk_A b0)) (F0 m pc ls st)
theorem mk_I {w : fm_W} {b0 N : Nat} (h : mk_B w b0 N) : fm_I w N := ⟨h.1, fun c d hc hd e => by
  rw [h.2 c hc, h.2 d hd] at e
  omega⟩
theorem mk_fA {w : fm_W} {b0 N : Nat} (h : mk_B w b0 N) {q : Nat} (hq : fm_A w N q) : mk_A b0 q := by
  obtain ⟨c, hc, rfl⟩ := hq
  show b0 ≤ _
  rw [h.2 c hc]
  omega
theorem mk_fK {w : fm_W} {b0 N : Nat} {U : State} (h : mk_B w b0 N) (hK : mk_K w b0 U) : fm_K w N U :=
  ⟨hK.1, hK.2.1, hK.2.2.1.narrow (fun _ hq => mk_fA h hq), hK.2.2.2.1.narrow (fun _ hq => mk_fA h hq)⟩
theorem mk_fD {w : fm_W} {b0 N : Nat} {lay : Nat → fm_L} (h : mk_B w b0 N) (τ : fm_M) : va_D (mk_A b0) (fm_ws w lay N τ) := ⟨(fm_D (mk_I h) τ).1, fun k q hq => mk_fA h ((fm_D (mk_I h) τ).2 k q hq)⟩
section MKF
variable {w : fm_W} {lay : Nat → fm_L} {σ τ τ2 : fm_M} {b0 N : Nat} {l : Launch} {R : Room} {cc : ByteArray} {nL : Nat} {own : String} {Qa : Array Value → State → Outcome → State → Prop} {mc ms n cells slots : Nat} {op op0 : Nat → Option va_E} {pc : Nat} {lv : List (Option Value)} {st : List Value}
theorem k_full (hn : n = N) (ho : op = fun _ => none) (hT : ∀ j, j < 6 → σ 1000 j = nI j) (k : mk_F w lay b0 N l R cc nL own Qa mc ms cells slots σ pc lv st) : mk_V w lay σ b0 N l R cc nL own Qa mc ms n cells slots op pc lv st := by
  intro p e s m args below meth c X hz0 H locs ls hP hS h
  subst hn ho
  exact k p e s m args below meth c X hz0 H locs ls ⟨hP.1, hT⟩ hS h
theorem n_iconst {i : Int} (v : Int32) (hv : Int32.ofInt i = v) (hd : decode cc pc = .ok (.iconst i, 1)) (k : mk_F w lay b0 N l R cc nL own Qa mc ms cells slots τ (pc + 1) lv (.int v :: st)) : mk_F w lay b0 N l R cc nL own Qa mc ms cells slots τ pc lv st := by
  intro p e s m args below meth c X hz0 H locs ls hP hS h
  exact lv_iconst X.1 X.2.1 hd hv (k p e s m args below meth c X hz0 H locs ls hP hS h)
theorem n_bipush {i : Int} (v : Int32) (hv : (Int8.ofInt i).toInt32 = v) (hd : decode cc pc = .ok (.bipush i, 2)) (k : mk_F w lay b0 N l R cc nL own Qa mc ms cells slots τ (pc + 2) lv (.int v :: st)) : mk_F w lay b0 N l R cc nL own Qa mc ms cells slots τ pc lv st := by
  intro p e s m args below meth c X hz0 H locs ls hP hS h
  exact lv_bipush X.1 X.2.1 hd hv (k p e s m args below meth c X hz0 H locs ls hP hS h)
theorem n_aload_n {q : Fin 4} (i : Nat) {x : Nat} (hi : (q : Nat) = i) (hl : lv[i]? = some (some (.ref x))) (hd : decode cc pc = .ok (.aload_n q, 1)) (k : mk_F w lay b0 N l R cc nL own Qa mc ms cells slots τ (pc + 1) lv (.ref x :: st)) : mk_F w lay b0 N l R cc nL own Qa mc ms cells slots τ pc lv st := by
  intro p e s m args below meth c X hz0 H locs ls hP hS h
  exact lv_aload_n X.1 X.2.1 hd hi (h.2.2.2 _ _ hl) (k p e s m args below meth c X hz0 H locs ls hP hS h)
theorem n_iload_n {q : Fin 4} (i : Nat) {x : Int32} (hi : (q : Nat) = i) (hl : lv[i]? = some (some (.int x))) (hd : decode cc pc = .ok (.iload_n q, 1)) (k : mk_F w lay b0 N l R cc nL own Qa mc ms cells slots τ (pc + 1) lv (.int x :: st)) : mk_F w lay b0 N l R cc nL own Qa mc ms cells slots τ pc lv st := by
  intro p e s m args below meth c X hz0 H locs ls hP hS h
  exact lv_iload_n X.1 X.2.1 hd hi (h.2.2.2 _ _ hl) (k p e s m args below meth c X hz0 H locs ls hP hS h)
theorem n_istore_n {q : Fin 4} (i : Nat) {x : Int32} {lv' : List (Option Value)} (hi : (q : Nat) = i) (hn : i < nL) (h2 : fm_c2 lv i = true) (hl : lv.set i (some (.int x)) = lv') (hd : decode cc pc = .ok (.istore_n q, 1)) (k : mk_F w lay b0 N l R cc nL own Qa mc ms cells slots τ (pc + 1) lv' st) : mk_F w lay b0 N l R cc nL own Qa mc ms cells slots τ pc lv (.int x :: st) := by
  intro p e s m args below meth c X hz0 H locs ls hP hS h
  exact lv_istore_n X.1 X.2.1 hd hi h.to hn rfl (fun ls' h' => k p e s m args below meth c X hz0 H locs ls' hP hS (hl ▸ h.set hn h2 h'))
theorem n_iinc {i : Nat} {n0 : Int} {x : Int32} {lv' : List (Option Value)} (v : Int32) (hd : decode cc pc = .ok (.iinc i n0, 3)) (hx : lv[i]? = some (some (.int x))) (hv : Int32.ofInt n0 = v) (hn : i < nL) (h2 : fm_c2 lv i = true) (hl : lv.set i (some (.int (x + v))) = lv') (k : mk_F w lay b0 N l R cc nL own Qa mc ms cells slots τ (pc + 3) lv' st) : mk_F w lay b0 N l R cc nL own Qa mc ms cells slots τ pc lv st := by
  intro p e s m args below meth c X hz0 H locs ls hP hS h
  subst hv
  obtain ⟨j, hj⟩ := List.getElem?_of_mem (fm_as_mem (q := (i, .int x)).mpr hx)
  exact lv_iinc X.1 X.2.1 hd h.to hj rfl hn rfl (fun ls' h' => k p e s m args below meth c X hz0 H locs ls' hP hS (hl ▸ h.set hn h2 h'))
theorem n_goto {off : Int} (tgt : Nat) (ht : (pc : Int) + off = (tgt : Int)) (hd : decode cc pc = .ok (.goto off, 3)) (k : mk_F w lay b0 N l R cc nL own Qa mc ms cells slots τ tgt lv st) : mk_F w lay b0 N l R cc nL own Qa mc ms cells slots τ pc lv st := by
  intro p e s m args below meth c X hz0 H locs ls hP hS h
  exact lv_goto X.1 X.2.1 hd ht (k p e s m args below meth c X hz0 H locs ls hP hS h)
theorem n_icmp_ge {x y : Int32} {off : Int} (tgt : Nat) (ht : (pc : Int) + off = (tgt : Int)) (hd : decode cc pc = .ok (.if_icmp .ge off, 3)) (kt : y ≤ x → mk_F w lay b0 N l R cc nL own Qa mc ms cells slots τ tgt lv st) (kf : ¬ y ≤ x → mk_F w lay b0 N l R cc nL own Qa mc ms cells slots τ (pc + 3) lv st) : mk_F w lay b0 N l R cc nL own Qa mc ms cells slots τ pc lv (.int y :: .int x :: st) := by
  intro p e s m args below meth c X hz0 H locs ls hP hS h
  exact lv_icmp_ge X.1 X.2.1 hd ht (fun q => kt q p e s m args below meth c X hz0 H locs ls hP hS h) (fun q => kf q p e s m args below meth c X hz0 H locs ls hP hS h)
theorem n_pop {a : Value} (ha : a.category = 1) (hd : decode cc pc = .ok (.pop, 1)) (k : mk_F w lay b0 N l R cc nL own Qa mc ms cells slots τ (pc + 1) lv st) : mk_F w lay b0 N l R cc nL own Qa mc ms cells slots τ pc lv (a :: st) := by
  intro p e s m args below meth c X hz0 H locs ls hP hS h
  exact lv_pop X.1 X.2.1 hd ha (k p e s m args below meth c X hz0 H locs ls hP hS h)
theorem n_geti {a ci kf idx : Nat} {tm : List (Option Nat)} (v : Int32) (hg : fm_gf own idx ci kf) (hy : lay a = .inr (ci, tm)) (ha : a < N) (hk : tm[kf]? = some none) (hv : τ a kf = v) (hd : decode cc pc = .ok (.getfield idx, 3)) (k : mk_F w lay b0 N l R cc nL own Qa mc ms cells slots τ (pc + 3) lv (.int v :: st)) : mk_F w lay b0 N l R cc nL own Qa mc ms cells slots τ pc lv (.ref (fm_ad w a) :: st) := by
  intro p e s m args below meth c X hz0 H locs ls hP hS h
  subst hv
  obtain ⟨C, T, n, g1, g2, g3, g4⟩ := hg
  have he : (fm_ws w lay N τ)[a]? = some (fm_ad w a, .inr (ci, fm_fl (fm_ad w) (τ a) 0 tm)) := by rw [fm_ws_get ha, fm_ce_obj hy]
  have hv : (fm_fl (fm_ad w) (τ a) 0 tm)[kf]? = some (.int (τ a kf)) := by rw [fm_fl_get, hk, Nat.zero_add]; rfl
  rcases g4 with g4 | ⟨host, g4⟩
  · exact va_get X.1 X.2.1 X.2.2.2.2.2.1 g2 X.2.2.2.2.1 X.2.2.2.2.2.2.2.1.1 hP.1 a he g1 _ g3 (X.2.2.2.2.2.1 _ g4) (fun _ h => h) hv hd (k p e s m args below meth c X hz0 H locs ls hP hS h)
  · exact va_getN X.1 X.2.1 X.2.2.2.2.2.1 g2 X.2.2.2.2.1 X.2.2.2.2.2.2.2.1.1 hP.1 a he g1 _ g3 (va_Nw.use rfl (X.2.2.2.2.2.2.2.1.2.1 _ g4)) (fun _ h => h) hv hd (k p e s m args below meth c X hz0 H locs ls hP hS h)
theorem n_getr {a ci kf idx : Nat} (b : Nat) {tm : List (Option Nat)} (hg : fm_gf own idx ci kf) (hy : lay a = .inr (ci, tm)) (ha : a < N) (hk : tm[kf]? = some (some b)) (hd : decode cc pc = .ok (.getfield idx, 3)) (k : mk_F w lay b0 N l R cc nL own Qa mc ms cells slots τ (pc + 3) lv (.ref (fm_ad w b) :: st)) : mk_F w lay b0 N l R cc nL own Qa mc ms cells slots τ pc lv (.ref (fm_ad w a) :: st) := by
  intro p e s m args below meth c X hz0 H locs ls hP hS h
  obtain ⟨C, T, n, g1, g2, g3, g4⟩ := hg
  have he : (fm_ws w lay N τ)[a]? = some (fm_ad w a, .inr (ci, fm_fl (fm_ad w) (τ a) 0 tm)) := by rw [fm_ws_get ha, fm_ce_obj hy]
  have hv : (fm_fl (fm_ad w) (τ a) 0 tm)[kf]? = some (.ref (fm_ad w b)) := by rw [fm_fl_get, hk, Nat.zero_add]; rfl
  rcases g4 with g4 | ⟨host, g4⟩
  · exact va_get X.1 X.2.1 X.2.2.2.2.2.1 g2 X.2.2.2.2.1 X.2.2.2.2.2.2.2.1.1 hP.1 a he g1 _ g3 (X.2.2.2.2.2.1 _ g4) (fun _ h => h) hv hd (k p e s m args below meth c X hz0 H locs ls hP hS h)
  · exact va_getN X.1 X.2.1 X.2.2.2.2.2.1 g2 X.2.2.2.2.1 X.2.2.2.2.2.2.2.1.1 hP.1 a he g1 _ g3 (va_Nw.use rfl (X.2.2.2.2.2.2.2.1.2.1 _ g4)) (fun _ h => h) hv hd (k p e s m args below meth c X hz0 H locs ls hP hS h)
theorem n_iast {a M i0 : Nat} {i x : Int32} (ha : a < N) (hy : lay a = .inl (0, M)) (hi : fm_in i M = true) (he : i.toNatClampNeg = i0) (hd : decode cc pc = .ok (.iastore, 1)) (k : mk_F w lay b0 N l R cc nL own Qa mc ms cells slots (fm_up τ a i0 x) (pc + 1) lv st) : mk_F w lay b0 N l R cc nL own Qa mc ms cells slots τ pc lv (.int x :: .int i :: .ref (fm_ad w a) :: st) := by
  intro p e s m args below meth c X hz0 H locs ls hP hS h
  subst he
  have hB := X.2.2.2.2.2.2.2.2.1
  refine va_iast X.1 X.2.1 X.2.2.2.2.2.2.2.1.1 hP.1 (mk_fD hB τ) hS a 0 (by rw [fm_ws_get ha, fm_ce_arr hy (by decide)]) rfl (fm_in_vp hi) hd (fun H1 locs1 hP1 _ hS1 => k p e s m args below meth c X hz0 H1 locs1 ls (fm_P.st hB.1 ha hP ?_ hP1) hS1 h)
  rw [fm_ce_arr hy (by decide), fm_st_eq]
theorem n_vret {S : Type} {post : S → Prop} {B : S → State → Prop} (u : S) (hp : post u) (hQ : ∀ t : State, fm_P w lay N τ t.heap → B u t) (hc : cells ≤ mc) (hs : slots ≤ ms) (hd : decode cc pc = .ok (.return_, 1)) : mk_F w lay b0 N l R cc nL own (va_Qv post B (mk_A b0)) mc ms cells slots τ pc lv [] := by
  intro p e s m args below meth c X hz0 H locs ls hP hS h
  have hlocks := X.2.2.2.2.2.2.1
  refine W.widen (k := mc) (n := ms) hc hs ?_
  exact W.vret X.1 X.2.1 X.2.2.1 (fun t ht hW => ⟨⟨u, rfl, hp, hQ t (by rw [ht]; exact hP)⟩, hS.F ht⟩) hS.2.2 hd
theorem mk_call {p : Program} {e : Env} {s : State} {m : MethodId} {args : Array Value} {below : List Frame} {meth : Method} {c : Code} {H : Heap} {locs : List Loc} {Q : State → Prop} {o : fm_O} {ls : Array Slot} {rest st0 : List Value} {a : Array Value} {H0 : Heap} {A0 : Nat → Prop} (hA : ∀ q, fm_A w N q → A0 q) (hr : va_Run p l e R s m args below meth c H locs cells slots 0 0 (F0 m pc ls st0) rest (fm_Q w lay N o a) (fm_A w N)) (hS : va_S A0 H0 H locs)
    (kk : ∀ (H1 : Heap) (locs1 : List Loc), fm_P w lay N o.2 H1 → va_S A0 H0 H1 locs1 → H.size ≤ H1.size → (∀ q, q < H.size → ¬ fm_A w N q → H1[q]? = H[q]?) → W p l e R s m args below meth c H1 locs1 cells slots Q (F0 m (pc + 3) ls (o.1.toList ++ rest))) : W p l e R s m args below meth c H locs cells slots Q (F0 m pc ls st0) := by
  intro T hT X
  obtain ⟨v, st₀, t, T', L, h0, X', hL, e1, e2, ⟨hv, hp, hz, hk⟩, st⟩ := hr T hT X
  cases hv
  rw [h0] at hz hk
  obtain ⟨t2, a1, b1⟩ := kk T'.heap (locs ++ L) (by rw [e1]; exact hp)
    ⟨Nat.le_trans hS.1 (by rw [e1]; exact hz), fun q h1 h2 => by rw [e1, hk q (Nat.lt_of_lt_of_le h1 hS.1) (fun z => h2 (hA q z))]; exact hS.2.1 q h1 h2, fun q hq => by
      rcases List.mem_append.mp hq with h | h
      · exact hS.2.2 q h
      · exact hA _ (hL q h)⟩ (by rw [e1]; exact hz) (fun q h1 h2 => by rw [e1]; exact hk q h1 h2) T' rfl X'
  exact ⟨t2, st t2 a1, b1⟩
theorem n_call {idx : Nat} {y : MethodName} {c2 : ByteArray} {nL2 n ci b : Nat} {ret2 : Option FieldType} {rm : Room} (As rest : List Value) {tm : List (Option Nat)} {r : Option Value} (hL : fm_lV own idx y c2 nL2 ret2 n ci) (hC : fm_C w lay N l y c2 nL2 ret2 rm (.ref (fm_ad w b) :: As) τ (r, τ2)) (hy : lay b = .inr (ci, tm)) (hb : b < N) (hn : As.length = n) (hst : st = As.reverse ++ .ref (fm_ad w b) :: rest) (hR : rm.cells = 0 ∧ rm.slots = 0 ∧ rm.frames + 1 ≤ R.frames ∧ 8 + (nL2 + 11) + rm.locals ≤ R.locals) (hW : (rest.map fun v => v.category).sum ≤ 8) (hcs : cells ≤ R.cells ∧ slots ≤ R.slots) (hd : decode cc pc = .ok (.invokevirtual idx, 3)) (k : mk_F w lay b0 N l R cc nL own Qa mc ms cells slots τ2 (pc + 3) lv (r.toList ++ rest)) : mk_F w lay b0 N l R cc nL own Qa mc ms cells slots τ pc lv st := by
  intro p e s m args below meth c X hz0 H locs ls hP hS h
  obtain ⟨⟨w1, w2, w3, w4⟩, w5, w6, T, kn, w7⟩ := hL
  have hg := X.2.2.2.2.2.1
  have hB := X.2.2.2.2.2.2.2.2.1
  have hCB : CallB R s args own idx y c2 nL2 ret2 (.code y c2 nL2 ret2 :: gw) rm 0 0 n := callB_of (Ts := gw) n hg (gw_good w1 (fun _ h => h)) rfl hR.1 hR.2.1 (hg _ w2) (hg _ w3) w4 hR.2.2
  have he : (fm_ws w lay N τ)[b]? = some (fm_ad w b, .inr (ci, fm_fl (fm_ad w) (τ b) 0 tm)) := by rw [fm_ws_get hb, fm_ce_obj hy]
  exact mk_call (fun _ hq => mk_fA hB hq) (va_runV (Ts := gw) (C := y.cls) (As := As) (rest := rest) ⟨X.1, X.2.1, X.2.2.2.1, X.2.2.2.2.1, hg⟩ hC ⟨hCB, hg _ w5, hg _ w6⟩ ⟨fm_Pc.blind, va_recv X.2.2.2.2.2.2.2.1.1 hP.1 w7 he, fun U hU hW => ⟨rfl, by rw [hU]; exact hP, mk_fK hB (X.2.2.2.2.2.2.2.1.on hS hU hW)⟩⟩ rfl hn h.1 hst (lv_room hW) hd ⟨by rw [Nat.add_zero]; exact hcs.1, by rw [Nat.add_zero]; exact hcs.2⟩) hS (fun H1 locs1 hP1 hS1 _ _ => k p e s m args below meth c X hz0 H1 locs1 ls hP1 hS1 h)
end MKF
