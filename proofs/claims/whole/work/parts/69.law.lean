/-! the law: two systems side by side -/
def lw_X (w1 w2 : fm_W) (b0 b L : Nat) (xs : Nat → Int32) (p : Program) (s : State) (mm : MethodId) (meth : Method) (c : Code) : Prop :=
  p.tables.exec = Jvm.exec ∧ c.code = code ∧ lw_At p s mm meth c b L xs ∧ mk_K w1 b0 s ∧ mk_K w2 b0 s ∧ mk_B w1 b0 105 ∧ mk_B w2 (b0 + 105) 11 ∧ s.heap.size = b0
def lw_V (w1 w2 : fm_W) (b0 b L : Nat) (xs : Nat → Int32) (l : Launch) (ξ μ : fm_M) (pc : Nat) (lv : List (Option Value)) (st : List Value) : Prop :=
  ∀ (p : Program) (e : Env) (s : State) (mm : MethodId) (below : List Frame) (meth : Method) (c : Code), lw_X w1 w2 b0 b L xs p s mm meth c → ∀ (H : Heap) (locs : List Loc) (ls : Array Slot), fm_P w1 layX 105 ξ H → fm_P w2 layM 11 μ H → va_S (mk_A b0) s.heap H locs → fm_has ls 4 lv →
    W p l e room_1 s mm #[Value.ref b] below meth c H locs 116 1391 (lw_Z below #[Value.ref b] s) (F0 mm pc ls st)
theorem mk_fK2 {w : fm_W} {b0 N : Nat} {U : State} (h : ∀ q, fm_A w N q → mk_A b0 q) (hK : mk_K w b0 U) : fm_K w N U :=
  ⟨hK.1, hK.2.1, hK.2.2.1.narrow h, hK.2.2.2.1.narrow h⟩
theorem fm_P.off {w : fm_W} {lay : Nat → fm_L} {N : Nat} {τ : fm_M} {H H1 : Heap} {B : Nat → Prop} (h : fm_P w lay N τ H) (hq : ∀ q, q < H.size → ¬ B q → H1[q]? = H[q]?) (hB : ∀ c, c < N → ¬ B (fm_ad w c)) : fm_P w lay N τ H1 := by
  refine ⟨h.1.kept (fun i q hi => ?_), h.2⟩
  obtain ⟨h1, e1⟩ := fm_ws_of hi
  exact hq q.1 ((h.1 i q hi).lt) (by rw [e1]; exact hB i h1)
section LAW
variable {w1 w2 : fm_W} {b0 b L : Nat} {xs : Nat → Int32} {l : Launch} {ξ μ : fm_M} {pc : Nat} {lv : List (Option Value)} {st : List Value}
theorem u_iconst {i : Int} (v : Int32) (hv : Int32.ofInt i = v) (hd : decode code pc = .ok (.iconst i, 1)) (k : lw_V w1 w2 b0 b L xs l ξ μ (pc + 1) lv (.int v :: st)) : lw_V w1 w2 b0 b L xs l ξ μ pc lv st := by
  intro p e s mm below meth c X H locs ls hP hM hS h
  exact lv_iconst X.1 X.2.1 hd hv (k p e s mm below meth c X H locs ls hP hM hS h)
theorem u_bipush {i : Int} (v : Int32) (hv : (Int8.ofInt i).toInt32 = v) (hd : decode code pc = .ok (.bipush i, 2)) (k : lw_V w1 w2 b0 b L xs l ξ μ (pc + 2) lv (.int v :: st)) : lw_V w1 w2 b0 b L xs l ξ μ pc lv st := by
  intro p e s mm below meth c X H locs ls hP hM hS h
  exact lv_bipush X.1 X.2.1 hd hv (k p e s mm below meth c X H locs ls hP hM hS h)
theorem u_aload_n {q : Fin 4} (i : Nat) {x : Nat} (hi : (q : Nat) = i) (hl : lv[i]? = some (some (.ref x))) (hd : decode code pc = .ok (.aload_n q, 1)) (k : lw_V w1 w2 b0 b L xs l ξ μ (pc + 1) lv (.ref x :: st)) : lw_V w1 w2 b0 b L xs l ξ μ pc lv st := by
  intro p e s mm below meth c X H locs ls hP hM hS h
  exact lv_aload_n X.1 X.2.1 hd hi (h.2.2.2 _ _ hl) (k p e s mm below meth c X H locs ls hP hM hS h)
theorem u_iload_n {q : Fin 4} (i : Nat) {x : Int32} (hi : (q : Nat) = i) (hl : lv[i]? = some (some (.int x))) (hd : decode code pc = .ok (.iload_n q, 1)) (k : lw_V w1 w2 b0 b L xs l ξ μ (pc + 1) lv (.int x :: st)) : lw_V w1 w2 b0 b L xs l ξ μ pc lv st := by
  intro p e s mm below meth c X H locs ls hP hM hS h
  exact lv_iload_n X.1 X.2.1 hd hi (h.2.2.2 _ _ hl) (k p e s mm below meth c X H locs ls hP hM hS h)
theorem u_istore_n {q : Fin 4} (i : Nat) {x : Int32} {lv' : List (Option Value)} (hi : (q : Nat) = i) (hn : i < 4) (h2 : fm_c2 lv i = true) (hl : lv.set i (some (.int x)) = lv') (hd : decode code pc = .ok (.istore_n q, 1)) (k : lw_V w1 w2 b0 b L xs l ξ μ (pc + 1) lv' st) : lw_V w1 w2 b0 b L xs l ξ μ pc lv (.int x :: st) := by
  intro p e s mm below meth c X H locs ls hP hM hS h
  exact lv_istore_n X.1 X.2.1 hd hi h.to hn rfl (fun ls' h' => k p e s mm below meth c X H locs ls' hP hM hS (hl ▸ h.set hn h2 h'))
theorem u_astore_n {q : Fin 4} (i : Nat) {x : Nat} {lv' : List (Option Value)} (hi : (q : Nat) = i) (hn : i < 4) (h2 : fm_c2 lv i = true) (hl : lv.set i (some (.ref x)) = lv') (hd : decode code pc = .ok (.astore_n q, 1)) (k : lw_V w1 w2 b0 b L xs l ξ μ (pc + 1) lv' st) : lw_V w1 w2 b0 b L xs l ξ μ pc lv (.ref x :: st) := by
  intro p e s mm below meth c X H locs ls hP hM hS h
  exact lv_astore_n X.1 X.2.1 hd hi h.to hn rfl (fun ls' h' => k p e s mm below meth c X H locs ls' hP hM hS (hl ▸ h.set hn h2 h'))
theorem u_iinc {i : Nat} {n0 : Int} {x : Int32} {lv' : List (Option Value)} (v : Int32) (hd : decode code pc = .ok (.iinc i n0, 3)) (hx : lv[i]? = some (some (.int x))) (hv : Int32.ofInt n0 = v) (hn : i < 4) (h2 : fm_c2 lv i = true) (hl : lv.set i (some (.int (x + v))) = lv') (k : lw_V w1 w2 b0 b L xs l ξ μ (pc + 3) lv' st) : lw_V w1 w2 b0 b L xs l ξ μ pc lv st := by
  intro p e s mm below meth c X H locs ls hP hM hS h
  subst hv
  obtain ⟨j, hj⟩ := List.getElem?_of_mem (fm_as_mem (q := (i, .int x)).mpr hx)
  exact lv_iinc X.1 X.2.1 hd h.to hj rfl hn rfl (fun ls' h' => k p e s mm below meth c X H locs ls' hP hM hS (hl ▸ h.set hn h2 h'))
theorem u_goto {off : Int} (tgt : Nat) (ht : (pc : Int) + off = (tgt : Int)) (hd : decode code pc = .ok (.goto off, 3)) (k : lw_V w1 w2 b0 b L xs l ξ μ tgt lv st) : lw_V w1 w2 b0 b L xs l ξ μ pc lv st := by
  intro p e s mm below meth c X H locs ls hP hM hS h
  exact lv_goto X.1 X.2.1 hd ht (k p e s mm below meth c X H locs ls hP hM hS h)
theorem u_icmp_gt {x y : Int32} {off : Int} (tgt : Nat) (ht : (pc : Int) + off = (tgt : Int)) (hd : decode code pc = .ok (.if_icmp .gt off, 3)) (kt : y < x → lw_V w1 w2 b0 b L xs l ξ μ tgt lv st) (kf : ¬ y < x → lw_V w1 w2 b0 b L xs l ξ μ (pc + 3) lv st) : lw_V w1 w2 b0 b L xs l ξ μ pc lv (.int y :: .int x :: st) := by
  intro p e s mm below meth c X H locs ls hP hM hS h
  exact lv_icmp_gt X.1 X.2.1 hd ht (fun q => kt q p e s mm below meth c X H locs ls hP hM hS h) (fun q => kf q p e s mm below meth c X H locs ls hP hM hS h)
theorem u_icmp_eq {x y : Int32} {off : Int} (tgt : Nat) (ht : (pc : Int) + off = (tgt : Int)) (hd : decode code pc = .ok (.if_icmp .eq off, 3)) (kt : x = y → lw_V w1 w2 b0 b L xs l ξ μ tgt lv st) (kf : ¬ x = y → lw_V w1 w2 b0 b L xs l ξ μ (pc + 3) lv st) : lw_V w1 w2 b0 b L xs l ξ μ pc lv (.int y :: .int x :: st) := by
  intro p e s mm below meth c X H locs ls hP hM hS h
  exact lv_icmp_eq X.1 X.2.1 hd ht (fun q => kt q p e s mm below meth c X H locs ls hP hM hS h) (fun q => kf q p e s mm below meth c X H locs ls hP hM hS h)
theorem u_iadd {x y : Int32} (hd : decode code pc = .ok (.iadd, 1)) (k : lw_V w1 w2 b0 b L xs l ξ μ (pc + 1) lv (.int (x + y) :: st)) : lw_V w1 w2 b0 b L xs l ξ μ pc lv (.int y :: .int x :: st) := by
  intro p e s mm below meth c X H locs ls hP hM hS h
  exact lv_iadd X.1 X.2.1 hd (k p e s mm below meth c X H locs ls hP hM hS h)
theorem u_isub {x y : Int32} (hd : decode code pc = .ok (.isub, 1)) (k : lw_V w1 w2 b0 b L xs l ξ μ (pc + 1) lv (.int (x - y) :: st)) : lw_V w1 w2 b0 b L xs l ξ μ pc lv (.int y :: .int x :: st) := by
  intro p e s mm below meth c X H locs ls hP hM hS h
  exact lv_isub X.1 X.2.1 hd (k p e s mm below meth c X H locs ls hP hM hS h)
theorem u_iand {x y : Int32} (hd : decode code pc = .ok (.iand, 1)) (k : lw_V w1 w2 b0 b L xs l ξ μ (pc + 1) lv (.int (x &&& y) :: st)) : lw_V w1 w2 b0 b L xs l ξ μ pc lv (.int y :: .int x :: st) := by
  intro p e s mm below meth c X H locs ls hP hM hS h
  exact lv_iand X.1 X.2.1 hd (k p e s mm below meth c X H locs ls hP hM hS h)
theorem u_tabIn {dflt lo hi : Int} {offs : Array Int} {len : Nat} {x : Int32} {off : Int} (j : Int32) (tgt : Nat) (hx : x = j) (hj : ¬ j.toInt < lo ∧ ¬ hi < j.toInt ∧ offs[(j.toInt - lo).toNat]? = some off) (ht : (pc : Int) + off = (tgt : Int)) (hd : decode code pc = .ok (.tableswitch dflt lo hi offs, len)) (k : lw_V w1 w2 b0 b L xs l ξ μ tgt lv st) : lw_V w1 w2 b0 b L xs l ξ μ pc lv (.int x :: st) := by
  intro p e s mm below meth c X H locs ls hP hM hS h
  exact by subst hx; exact lv_tableIn X.1 X.2.1 hd hj.1 hj.2.1 hj.2.2 ht (k p e s mm below meth c X H locs ls hP hM hS h)
theorem u_tabOut {dflt lo hi : Int} {offs : Array Int} {len : Nat} {x : Int32} (tgt : Nat) (hx : x.toInt < lo ∨ hi < x.toInt) (ht : (pc : Int) + dflt = (tgt : Int)) (hd : decode code pc = .ok (.tableswitch dflt lo hi offs, len)) (k : lw_V w1 w2 b0 b L xs l ξ μ tgt lv st) : lw_V w1 w2 b0 b L xs l ξ μ pc lv (.int x :: st) := by
  intro p e s mm below meth c X H locs ls hP hM hS h
  exact lv_tableOut X.1 X.2.1 hd hx ht (k p e s mm below meth c X H locs ls hP hM hS h)
theorem u_sld {i : Int32} (v : Nat) (hv : i = nI v) (hL : L ≤ 256) (hvL : v < L) (hd : decode code pc = .ok (.iaload, 1)) (k : lw_V w1 w2 b0 b L xs l ξ μ (pc + 1) lv (.int (xs v) :: st)) : lw_V w1 w2 b0 b L xs l ξ μ pc lv (.int i :: .ref b :: st) := by
  intro p e s mm below meth c X H locs ls hP hM hS h
  obtain ⟨hx, hb, hr, hml, hown, hts, hX, hbl, hlocks, hgv⟩ := X.2.2.1
  subst hv
  refine va_sld X.1 X.2.1 hX hbl (A := mk_A b0) (by show ¬ b0 ≤ b; have := X.2.2.2.2.2.2.2; omega) hS (vp_in_nI hvL (by omega)) hd ?_
  rw [nI_clamp (by omega)]
  exact k p e s mm below meth c X H locs ls hP hM hS h
theorem u_slen (hd : decode code pc = .ok (.arraylength, 1)) (k : lw_V w1 w2 b0 b L xs l ξ μ (pc + 1) lv (.int (nI L) :: st)) : lw_V w1 w2 b0 b L xs l ξ μ pc lv (.ref b :: st) := by
  intro p e s mm below meth c X H locs ls hP hM hS h
  obtain ⟨hx, hb, hr, hml, hown, hts, hX, hbl, hlocks, hgv⟩ := X.2.2.1
  exact va_slen X.1 X.2.1 hX hbl (A := mk_A b0) (by show ¬ b0 ≤ b; have := X.2.2.2.2.2.2.2; omega) hS hd (k p e s mm below meth c X H locs ls hP hM hS h)
theorem u_ret (hd : decode code pc = .ok (.ireturn, 1)) : lw_V w1 w2 b0 b L xs l ξ μ pc lv [.int 1] := by
  intro p e s mm below meth c X H locs ls hP hM hS h
  obtain ⟨hx, hb, hr, hml, hown, hts, hX, hbl, hlocks, hgv⟩ := X.2.2.1
  refine va_forget (fun q hq => by rw [X.2.2.2.2.2.2.2]; exact hS.2.2 q hq) ?_
  refine W.widen (k := 600000) (n := 7302250) (Nat.le_of_ble_eq_true rfl) (Nat.le_of_ble_eq_true rfl) ?_
  exact lw_ret hx hb hr hlocks hd
theorem u_callX {ξ2 : fm_M} {idx : Nat} {y : MethodName} {c2 : ByteArray} {nL2 n : Nat} {rm : Room} (As rest : List Value) {r : Int32} (hL : fm_lV RL idx y c2 nL2 (some .int) n 7) (hC : fm_C w1 layX 105 l y c2 nL2 (some .int) rm (.ref (fm_ad w1 0) :: As) ξ (some (.int r), ξ2)) (hn : As.length = n) (hst : st = As.reverse ++ .ref (fm_ad w1 0) :: rest) (hR : rm.cells = 0 ∧ rm.slots = 0 ∧ rm.frames + 1 ≤ 9 ∧ 8 + (nL2 + 11) + rm.locals ≤ 314) (hW : (rest.map fun v => v.category).sum ≤ 8) (hd : decode code pc = .ok (.invokevirtual idx, 3)) (k : lw_V w1 w2 b0 b L xs l ξ2 μ (pc + 3) lv (.int r :: rest)) : lw_V w1 w2 b0 b L xs l ξ μ pc lv st := by
  intro p e s mm below meth c X H locs ls hP hM hS h
  obtain ⟨⟨g1, g2, g3, g4⟩, g5, g6, T, kn, g7⟩ := hL
  obtain ⟨hx, hb, hr, hml, hown, hts, hX, hbl, hlocks, hgv⟩ := X.2.2.1
  have hg : ∀ x ∈ gw, x.before #[Value.ref b] s = true := fun x hx => hts x (gw_tbl hx)
  have hB := X.2.2.2.2.2.1
  have hB2 := X.2.2.2.2.2.2.1
  have hCB : CallB room_1 s #[Value.ref b] RL idx y c2 nL2 (some .int) (.code y c2 nL2 (some .int) :: gw) rm 0 0 n := callB_of (Ts := gw) n hg (gw_good g1 (fun _ h => h)) rfl hR.1 hR.2.1 (hg _ g2) (hg _ g3) g4 hR.2.2
  obtain ⟨fs, he⟩ : ∃ fs, (fm_ws w1 layX 105 ξ)[0]? = some (fm_ad w1 0, .inr (7, fs)) := ⟨_, by rw [fm_ws_get (by decide), fm_ce_obj yX_0]⟩
  refine mk_call (fun _ hq => mk_fA hB hq) (va_runV (Ts := gw) (C := y.cls) (As := As) (rest := rest) ⟨hx, hb, hml, hown, hg⟩ hC ⟨hCB, hg _ g5, hg _ g6⟩ ⟨fm_Pc.blind, va_recv X.2.2.2.1.1 hP.1 g7 he, fun U hU hW => ⟨rfl, by rw [hU]; exact hP, mk_fK hB (X.2.2.2.1.on hS hU hW)⟩⟩ rfl hn h.1 hst (lv_room hW) hd ⟨Nat.le_of_ble_eq_true rfl, Nat.le_of_ble_eq_true rfl⟩) hS (fun H1 locs1 hP1 hS1 _ hq => k p e s mm below meth c X H1 locs1 ls hP1 (hM.off hq (fun c hc hA => ?_)) hS1 h)
  obtain ⟨d, hd1, hd2⟩ := hA
  rw [hB2.2 c hc, hB.2 d hd1] at hd2
  omega
theorem u_callM {μ2 : fm_M} {idx : Nat} {y : MethodName} {c2 : ByteArray} {nL2 n : Nat} {rm : Room} (As rest : List Value) {r : Int32} (hL : fm_lV RL idx y c2 nL2 (some .int) n 8) (hC : fm_C w2 layM 11 l y c2 nL2 (some .int) rm (.ref (fm_ad w2 0) :: As) μ (some (.int r), μ2)) (hn : As.length = n) (hst : st = As.reverse ++ .ref (fm_ad w2 0) :: rest) (hR : rm.cells = 0 ∧ rm.slots = 0 ∧ rm.frames + 1 ≤ 9 ∧ 8 + (nL2 + 11) + rm.locals ≤ 314) (hW : (rest.map fun v => v.category).sum ≤ 8) (hd : decode code pc = .ok (.invokevirtual idx, 3)) (k : lw_V w1 w2 b0 b L xs l ξ μ2 (pc + 3) lv (.int r :: rest)) : lw_V w1 w2 b0 b L xs l ξ μ pc lv st := by
  intro p e s mm below meth c X H locs ls hP hM hS h
  obtain ⟨⟨g1, g2, g3, g4⟩, g5, g6, T, kn, g7⟩ := hL
  obtain ⟨hx, hb, hr, hml, hown, hts, hX, hbl, hlocks, hgv⟩ := X.2.2.1
  have hg : ∀ x ∈ gw, x.before #[Value.ref b] s = true := fun x hx => hts x (gw_tbl hx)
  have hB := X.2.2.2.2.2.1
  have hB2 := X.2.2.2.2.2.2.1
  have hA2 : ∀ q, fm_A w2 11 q → mk_A b0 q := fun q hq => by
    have h1 : b0 + 105 ≤ q := mk_fA hB2 hq
    show b0 ≤ q
    omega
  have hCB : CallB room_1 s #[Value.ref b] RL idx y c2 nL2 (some .int) (.code y c2 nL2 (some .int) :: gw) rm 0 0 n := callB_of (Ts := gw) n hg (gw_good g1 (fun _ h => h)) rfl hR.1 hR.2.1 (hg _ g2) (hg _ g3) g4 hR.2.2
  obtain ⟨fs, he⟩ : ∃ fs, (fm_ws w2 layM 11 μ)[0]? = some (fm_ad w2 0, .inr (8, fs)) := ⟨_, by rw [fm_ws_get (by decide), fm_ce_obj yM_0]⟩
  refine mk_call hA2 (va_runV (Ts := gw) (C := y.cls) (As := As) (rest := rest) ⟨hx, hb, hml, hown, hg⟩ hC ⟨hCB, hg _ g5, hg _ g6⟩ ⟨fm_Pc.blind, va_recv X.2.2.2.2.1.1 hM.1 g7 he, fun U hU hW => ⟨rfl, by rw [hU]; exact hM, mk_fK2 hA2 (X.2.2.2.2.1.on hS hU hW)⟩⟩ rfl hn h.1 hst (lv_room hW) hd ⟨Nat.le_of_ble_eq_true rfl, Nat.le_of_ble_eq_true rfl⟩) hS (fun H1 locs1 hM1 hS1 _ hq => k p e s mm below meth c X H1 locs1 ls (hP.off hq (fun c hc hA => ?_)) hM1 hS1 h)
  obtain ⟨d, hd1, hd2⟩ := hA
  rw [hB.2 c hc, hB2.2 d hd1] at hd2
  omega
abbrev lvL (w1 w2 : fm_W) (b k : Nat) : List (Option Value) := [some (.ref b), some (.ref (fm_ad w1 0)), some (.ref (fm_ad w2 0)), some (.int (nI (4 * k)))]
theorem lc_case_0 (hI1 : fm_I w1 105) (hI2 : fm_I w2 11) (hL : L ≤ 256) {k q : Nat} (hk : 4 * k + 4 ≤ L) (hq : q < 1000) (h : Rel q ξ μ) (kk : ∀ ξ2 μ2, Rel (q + 1) ξ2 μ2 → lw_V w1 w2 b0 b L xs l ξ2 μ2 733 (lvL w1 w2 b k) []) : lw_V w1 w2 b0 b L xs l ξ μ 148 (lvL w1 w2 b k) [] := by
  obtain ⟨r, x2, m2, hx, hm, hR⟩ := R_write h hq (xs (4 * k + 1))
  refine u_aload_n 1 rfl rfl dL_law_148 ?_
  refine u_aload_n 0 rfl rfl dL_law_149 ?_
  refine u_iload_n 3 rfl rfl dL_law_150 ?_
  refine u_iconst (nI 1) rfl dL_law_151 ?_
  refine u_iadd dL_law_152 ?_
  refine u_sld (4 * k + 1) (nI_add _ _) hL (by omega) dL_law_153 ?_
  refine u_callX [.int (xs (4 * k + 1))] [] l_L_13 (c_X8_write hI1 hx) rfl rfl ⟨rfl, rfl, by decide, by decide⟩ (by decide) dL_law_154 ?_
  refine u_aload_n 2 rfl rfl dL_law_157 ?_
  refine u_aload_n 0 rfl rfl dL_law_158 ?_
  refine u_iload_n 3 rfl rfl dL_law_159 ?_
  refine u_iconst (nI 1) rfl dL_law_160 ?_
  refine u_iadd dL_law_161 ?_
  refine u_sld (4 * k + 1) (nI_add _ _) hL (by omega) dL_law_162 ?_
  refine u_callM [.int (xs (4 * k + 1))] [.int r] l_L_17 (c_X9_write hI2 hm) rfl rfl ⟨rfl, rfl, by decide, by decide⟩ (by simp [Value.category]) dL_law_163 ?_
  exact u_icmp_eq 733 (by decide) dL_law_166 (fun _ => kk _ _ hR) (fun q => absurd rfl q)
theorem lc_case_1 (hI1 : fm_I w1 105) (hI2 : fm_I w2 11) (hL : L ≤ 256) {k q : Nat} (hk : 4 * k + 4 ≤ L) (hq : q < 1000) (h : Rel q ξ μ) (kk : ∀ ξ2 μ2, Rel (q + 1) ξ2 μ2 → lw_V w1 w2 b0 b L xs l ξ2 μ2 733 (lvL w1 w2 b k) []) : lw_V w1 w2 b0 b L xs l ξ μ 171 (lvL w1 w2 b k) [] := by
  obtain ⟨r, x2, m2, hx, hm, hR⟩ := R_wipe h hq
  refine u_aload_n 1 rfl rfl dL_law_171 ?_
  refine u_callX [] [] l_L_18 (c_X8_wipe hI1 hx) rfl rfl ⟨rfl, rfl, by decide, by decide⟩ (by decide) dL_law_172 ?_
  refine u_aload_n 2 rfl rfl dL_law_175 ?_
  refine u_callM [] [.int r] l_L_22 (c_X9_wipe hI2 hm) rfl rfl ⟨rfl, rfl, by decide, by decide⟩ (by simp [Value.category]) dL_law_176 ?_
  exact u_icmp_eq 733 (by decide) dL_law_179 (fun _ => kk _ _ hR) (fun q => absurd rfl q)
theorem lc_case_2 (hI1 : fm_I w1 105) (hI2 : fm_I w2 11) (hL : L ≤ 256) {k q : Nat} (hk : 4 * k + 4 ≤ L) (hq : q < 1000) (h : Rel q ξ μ) (kk : ∀ ξ2 μ2, Rel (q + 1) ξ2 μ2 → lw_V w1 w2 b0 b L xs l ξ2 μ2 733 (lvL w1 w2 b k) []) : lw_V w1 w2 b0 b L xs l ξ μ 184 (lvL w1 w2 b k) [] := by
  obtain ⟨r, x2, m2, hx, hm, hR⟩ := R_fault h hq
  refine u_aload_n 1 rfl rfl dL_law_184 ?_
  refine u_callX [] [] l_L_23 (c_X8_fault hI1 hx) rfl rfl ⟨rfl, rfl, by decide, by decide⟩ (by decide) dL_law_185 ?_
  refine u_aload_n 2 rfl rfl dL_law_188 ?_
  refine u_callM [] [.int r] l_L_26 (c_X9_fault hI2 hm) rfl rfl ⟨rfl, rfl, by decide, by decide⟩ (by simp [Value.category]) dL_law_189 ?_
  exact u_icmp_eq 733 (by decide) dL_law_192 (fun _ => kk _ _ hR) (fun q => absurd rfl q)
theorem lc_case_3 (hI1 : fm_I w1 105) (hI2 : fm_I w2 11) (hL : L ≤ 256) {k q : Nat} (hk : 4 * k + 4 ≤ L) (hq : q < 1000) (h : Rel q ξ μ) (kk : ∀ ξ2 μ2, Rel (q + 1) ξ2 μ2 → lw_V w1 w2 b0 b L xs l ξ2 μ2 733 (lvL w1 w2 b k) []) : lw_V w1 w2 b0 b L xs l ξ μ 197 (lvL w1 w2 b k) [] := by
  obtain ⟨r, x2, m2, hx, hm, hR⟩ := R_lay h hq
  refine u_aload_n 1 rfl rfl dL_law_197 ?_
  refine u_callX [] [] l_L_27 (c_X8_lay hI1 hx) rfl rfl ⟨rfl, rfl, by decide, by decide⟩ (by decide) dL_law_198 ?_
  refine u_aload_n 2 rfl rfl dL_law_201 ?_
  refine u_callM [] [.int r] l_L_30 (c_X9_lay hI2 hm) rfl rfl ⟨rfl, rfl, by decide, by decide⟩ (by simp [Value.category]) dL_law_202 ?_
  exact u_icmp_eq 733 (by decide) dL_law_205 (fun _ => kk _ _ hR) (fun q => absurd rfl q)
theorem lc_case_4 (hI1 : fm_I w1 105) (hI2 : fm_I w2 11) (hL : L ≤ 256) {k q : Nat} (hk : 4 * k + 4 ≤ L) (hq : q < 1000) (h : Rel q ξ μ) (kk : ∀ ξ2 μ2, Rel (q + 1) ξ2 μ2 → lw_V w1 w2 b0 b L xs l ξ2 μ2 733 (lvL w1 w2 b k) []) : lw_V w1 w2 b0 b L xs l ξ μ 210 (lvL w1 w2 b k) [] := by
  obtain ⟨r, x2, m2, hx, hm, hR⟩ := R_child h hq (xs (4 * k + 1)) (xs (4 * k + 2))
  refine u_aload_n 1 rfl rfl dL_law_210 ?_
  refine u_aload_n 0 rfl rfl dL_law_211 ?_
  refine u_iload_n 3 rfl rfl dL_law_212 ?_
  refine u_iconst (nI 1) rfl dL_law_213 ?_
  refine u_iadd dL_law_214 ?_
  refine u_sld (4 * k + 1) (nI_add _ _) hL (by omega) dL_law_215 ?_
  refine u_aload_n 0 rfl rfl dL_law_216 ?_
  refine u_iload_n 3 rfl rfl dL_law_217 ?_
  refine u_iconst (nI 2) rfl dL_law_218 ?_
  refine u_iadd dL_law_219 ?_
  refine u_sld (4 * k + 2) (nI_add _ _) hL (by omega) dL_law_220 ?_
  refine u_callX [.int (xs (4 * k + 1)), .int (xs (4 * k + 2))] [] l_L_31 (c_X8_child hI1 hx) rfl rfl ⟨rfl, rfl, by decide, by decide⟩ (by decide) dL_law_221 ?_
  refine u_aload_n 2 rfl rfl dL_law_224 ?_
  refine u_aload_n 0 rfl rfl dL_law_225 ?_
  refine u_iload_n 3 rfl rfl dL_law_226 ?_
  refine u_iconst (nI 1) rfl dL_law_227 ?_
  refine u_iadd dL_law_228 ?_
  refine u_sld (4 * k + 1) (nI_add _ _) hL (by omega) dL_law_229 ?_
  refine u_aload_n 0 rfl rfl dL_law_230 ?_
  refine u_iload_n 3 rfl rfl dL_law_231 ?_
  refine u_iconst (nI 2) rfl dL_law_232 ?_
  refine u_iadd dL_law_233 ?_
  refine u_sld (4 * k + 2) (nI_add _ _) hL (by omega) dL_law_234 ?_
  refine u_callM [.int (xs (4 * k + 1)), .int (xs (4 * k + 2))] [.int r] l_L_35 (c_X9_child hI2 hm) rfl rfl ⟨rfl, rfl, by decide, by decide⟩ (by simp [Value.category]) dL_law_235 ?_
  exact u_icmp_eq 733 (by decide) dL_law_238 (fun _ => kk _ _ hR) (fun q => absurd rfl q)
theorem lc_case_5 (hI1 : fm_I w1 105) (hI2 : fm_I w2 11) (hL : L ≤ 256) {k q : Nat} (hk : 4 * k + 4 ≤ L) (hq : q < 1000) (h : Rel q ξ μ) (kk : ∀ ξ2 μ2, Rel (q + 1) ξ2 μ2 → lw_V w1 w2 b0 b L xs l ξ2 μ2 733 (lvL w1 w2 b k) []) : lw_V w1 w2 b0 b L xs l ξ μ 243 (lvL w1 w2 b k) [] := by
  obtain ⟨r, x2, m2, hx, hm, hR⟩ := R_woman h hq (xs (4 * k + 1)) (xs (4 * k + 2))
  refine u_aload_n 1 rfl rfl dL_law_243 ?_
  refine u_aload_n 0 rfl rfl dL_law_244 ?_
  refine u_iload_n 3 rfl rfl dL_law_245 ?_
  refine u_iconst (nI 1) rfl dL_law_246 ?_
  refine u_iadd dL_law_247 ?_
  refine u_sld (4 * k + 1) (nI_add _ _) hL (by omega) dL_law_248 ?_
  refine u_aload_n 0 rfl rfl dL_law_249 ?_
  refine u_iload_n 3 rfl rfl dL_law_250 ?_
  refine u_iconst (nI 2) rfl dL_law_251 ?_
  refine u_iadd dL_law_252 ?_
  refine u_sld (4 * k + 2) (nI_add _ _) hL (by omega) dL_law_253 ?_
  refine u_callX [.int (xs (4 * k + 1)), .int (xs (4 * k + 2))] [] l_L_36 (c_X8_woman hI1 hx) rfl rfl ⟨rfl, rfl, by decide, by decide⟩ (by decide) dL_law_254 ?_
  refine u_aload_n 2 rfl rfl dL_law_257 ?_
  refine u_aload_n 0 rfl rfl dL_law_258 ?_
  refine u_iload_n 3 rfl rfl dL_law_259 ?_
  refine u_iconst (nI 1) rfl dL_law_260 ?_
  refine u_iadd dL_law_261 ?_
  refine u_sld (4 * k + 1) (nI_add _ _) hL (by omega) dL_law_262 ?_
  refine u_aload_n 0 rfl rfl dL_law_263 ?_
  refine u_iload_n 3 rfl rfl dL_law_264 ?_
  refine u_iconst (nI 2) rfl dL_law_265 ?_
  refine u_iadd dL_law_266 ?_
  refine u_sld (4 * k + 2) (nI_add _ _) hL (by omega) dL_law_267 ?_
  refine u_callM [.int (xs (4 * k + 1)), .int (xs (4 * k + 2))] [.int r] l_L_39 (c_X9_woman hI2 hm) rfl rfl ⟨rfl, rfl, by decide, by decide⟩ (by simp [Value.category]) dL_law_268 ?_
  exact u_icmp_eq 733 (by decide) dL_law_271 (fun _ => kk _ _ hR) (fun q => absurd rfl q)
theorem lc_case_6 (hI1 : fm_I w1 105) (hI2 : fm_I w2 11) (hL : L ≤ 256) {k q : Nat} (hk : 4 * k + 4 ≤ L) (hq : q < 1000) (h : Rel q ξ μ) (kk : ∀ ξ2 μ2, Rel (q + 1) ξ2 μ2 → lw_V w1 w2 b0 b L xs l ξ2 μ2 733 (lvL w1 w2 b k) []) : lw_V w1 w2 b0 b L xs l ξ μ 276 (lvL w1 w2 b k) [] := by
  obtain ⟨r, x2, m2, hx, hm, hR⟩ := R_take h hq (xs (4 * k + 1)) (xs (4 * k + 2))
  refine u_aload_n 1 rfl rfl dL_law_276 ?_
  refine u_aload_n 0 rfl rfl dL_law_277 ?_
  refine u_iload_n 3 rfl rfl dL_law_278 ?_
  refine u_iconst (nI 1) rfl dL_law_279 ?_
  refine u_iadd dL_law_280 ?_
  refine u_sld (4 * k + 1) (nI_add _ _) hL (by omega) dL_law_281 ?_
  refine u_aload_n 0 rfl rfl dL_law_282 ?_
  refine u_iload_n 3 rfl rfl dL_law_283 ?_
  refine u_iconst (nI 2) rfl dL_law_284 ?_
  refine u_iadd dL_law_285 ?_
  refine u_sld (4 * k + 2) (nI_add _ _) hL (by omega) dL_law_286 ?_
  refine u_callX [.int (xs (4 * k + 1)), .int (xs (4 * k + 2))] [] l_L_40 (c_X8_take hI1 hx) rfl rfl ⟨rfl, rfl, by decide, by decide⟩ (by decide) dL_law_287 ?_
  refine u_aload_n 2 rfl rfl dL_law_290 ?_
  refine u_aload_n 0 rfl rfl dL_law_291 ?_
  refine u_iload_n 3 rfl rfl dL_law_292 ?_
  refine u_iconst (nI 1) rfl dL_law_293 ?_
  refine u_iadd dL_law_294 ?_
  refine u_sld (4 * k + 1) (nI_add _ _) hL (by omega) dL_law_295 ?_
  refine u_aload_n 0 rfl rfl dL_law_296 ?_
  refine u_iload_n 3 rfl rfl dL_law_297 ?_
  refine u_iconst (nI 2) rfl dL_law_298 ?_
  refine u_iadd dL_law_299 ?_
  refine u_sld (4 * k + 2) (nI_add _ _) hL (by omega) dL_law_300 ?_
  refine u_callM [.int (xs (4 * k + 1)), .int (xs (4 * k + 2))] [.int r] l_L_43 (c_X9_take hI2 hm) rfl rfl ⟨rfl, rfl, by decide, by decide⟩ (by simp [Value.category]) dL_law_301 ?_
  exact u_icmp_eq 733 (by decide) dL_law_304 (fun _ => kk _ _ hR) (fun q => absurd rfl q)
theorem lc_case_7 (hI1 : fm_I w1 105) (hI2 : fm_I w2 11) (hL : L ≤ 256) {k q : Nat} (hk : 4 * k + 4 ≤ L) (hq : q < 1000) (h : Rel q ξ μ) (kk : ∀ ξ2 μ2, Rel (q + 1) ξ2 μ2 → lw_V w1 w2 b0 b L xs l ξ2 μ2 733 (lvL w1 w2 b k) []) : lw_V w1 w2 b0 b L xs l ξ μ 309 (lvL w1 w2 b k) [] := by
  obtain ⟨r, x2, m2, hx, hm, hR⟩ := R_layOut h hq (xs (4 * k + 1))
  refine u_aload_n 1 rfl rfl dL_law_309 ?_
  refine u_aload_n 0 rfl rfl dL_law_310 ?_
  refine u_iload_n 3 rfl rfl dL_law_311 ?_
  refine u_iconst (nI 1) rfl dL_law_312 ?_
  refine u_iadd dL_law_313 ?_
  refine u_sld (4 * k + 1) (nI_add _ _) hL (by omega) dL_law_314 ?_
  refine u_callX [.int (xs (4 * k + 1))] [] l_L_44 (c_X8_layOut hI1 hx) rfl rfl ⟨rfl, rfl, by decide, by decide⟩ (by decide) dL_law_315 ?_
  refine u_aload_n 2 rfl rfl dL_law_318 ?_
  refine u_aload_n 0 rfl rfl dL_law_319 ?_
  refine u_iload_n 3 rfl rfl dL_law_320 ?_
  refine u_iconst (nI 1) rfl dL_law_321 ?_
  refine u_iadd dL_law_322 ?_
  refine u_sld (4 * k + 1) (nI_add _ _) hL (by omega) dL_law_323 ?_
  refine u_callM [.int (xs (4 * k + 1))] [.int r] l_L_47 (c_X9_layOut hI2 hm) rfl rfl ⟨rfl, rfl, by decide, by decide⟩ (by simp [Value.category]) dL_law_324 ?_
  exact u_icmp_eq 733 (by decide) dL_law_327 (fun _ => kk _ _ hR) (fun q => absurd rfl q)
theorem lc_case_8 (hI1 : fm_I w1 105) (hI2 : fm_I w2 11) (hL : L ≤ 256) {k q : Nat} (hk : 4 * k + 4 ≤ L) (hq : q < 1000) (h : Rel q ξ μ) (kk : ∀ ξ2 μ2, Rel (q + 1) ξ2 μ2 → lw_V w1 w2 b0 b L xs l ξ2 μ2 733 (lvL w1 w2 b k) []) : lw_V w1 w2 b0 b L xs l ξ μ 332 (lvL w1 w2 b k) [] := by
  obtain ⟨r, x2, m2, hx, hm, hR⟩ := R_door h hq (xs (4 * k + 1))
  refine u_aload_n 1 rfl rfl dL_law_332 ?_
  refine u_aload_n 0 rfl rfl dL_law_333 ?_
  refine u_iload_n 3 rfl rfl dL_law_334 ?_
  refine u_iconst (nI 1) rfl dL_law_335 ?_
  refine u_iadd dL_law_336 ?_
  refine u_sld (4 * k + 1) (nI_add _ _) hL (by omega) dL_law_337 ?_
  refine u_callX [.int (xs (4 * k + 1))] [] l_L_48 (c_X8_door hI1 hx) rfl rfl ⟨rfl, rfl, by decide, by decide⟩ (by decide) dL_law_338 ?_
  refine u_aload_n 2 rfl rfl dL_law_341 ?_
  refine u_aload_n 0 rfl rfl dL_law_342 ?_
  refine u_iload_n 3 rfl rfl dL_law_343 ?_
  refine u_iconst (nI 1) rfl dL_law_344 ?_
  refine u_iadd dL_law_345 ?_
  refine u_sld (4 * k + 1) (nI_add _ _) hL (by omega) dL_law_346 ?_
  refine u_callM [.int (xs (4 * k + 1))] [.int r] l_L_51 (c_X9_door hI2 hm) rfl rfl ⟨rfl, rfl, by decide, by decide⟩ (by simp [Value.category]) dL_law_347 ?_
  exact u_icmp_eq 733 (by decide) dL_law_350 (fun _ => kk _ _ hR) (fun q => absurd rfl q)
theorem lc_case_9 (hI1 : fm_I w1 105) (hI2 : fm_I w2 11) (hL : L ≤ 256) {k q : Nat} (hk : 4 * k + 4 ≤ L) (hq : q < 1000) (h : Rel q ξ μ) (kk : ∀ ξ2 μ2, Rel (q + 1) ξ2 μ2 → lw_V w1 w2 b0 b L xs l ξ2 μ2 733 (lvL w1 w2 b k) []) : lw_V w1 w2 b0 b L xs l ξ μ 355 (lvL w1 w2 b k) [] := by
  obtain ⟨r, x2, m2, hx, hm, hR⟩ := R_pass h hq (xs (4 * k + 1))
  refine u_aload_n 1 rfl rfl dL_law_355 ?_
  refine u_aload_n 0 rfl rfl dL_law_356 ?_
  refine u_iload_n 3 rfl rfl dL_law_357 ?_
  refine u_iconst (nI 1) rfl dL_law_358 ?_
  refine u_iadd dL_law_359 ?_
  refine u_sld (4 * k + 1) (nI_add _ _) hL (by omega) dL_law_360 ?_
  refine u_callX [.int (xs (4 * k + 1))] [] l_L_52 (c_X8_pass hI1 hx) rfl rfl ⟨rfl, rfl, by decide, by decide⟩ (by decide) dL_law_361 ?_
  refine u_aload_n 2 rfl rfl dL_law_364 ?_
  refine u_aload_n 0 rfl rfl dL_law_365 ?_
  refine u_iload_n 3 rfl rfl dL_law_366 ?_
  refine u_iconst (nI 1) rfl dL_law_367 ?_
  refine u_iadd dL_law_368 ?_
  refine u_sld (4 * k + 1) (nI_add _ _) hL (by omega) dL_law_369 ?_
  refine u_callM [.int (xs (4 * k + 1))] [.int r] l_L_55 (c_X9_pass hI2 hm) rfl rfl ⟨rfl, rfl, by decide, by decide⟩ (by simp [Value.category]) dL_law_370 ?_
  exact u_icmp_eq 733 (by decide) dL_law_373 (fun _ => kk _ _ hR) (fun q => absurd rfl q)
theorem lc_case_10 (hI1 : fm_I w1 105) (hI2 : fm_I w2 11) (hL : L ≤ 256) {k q : Nat} (hk : 4 * k + 4 ≤ L) (hq : q < 1000) (h : Rel q ξ μ) (kk : ∀ ξ2 μ2, Rel (q + 1) ξ2 μ2 → lw_V w1 w2 b0 b L xs l ξ2 μ2 733 (lvL w1 w2 b k) []) : lw_V w1 w2 b0 b L xs l ξ μ 378 (lvL w1 w2 b k) [] := by
  obtain ⟨r, x2, m2, hx, hm, hR⟩ := R_undo h hq
  refine u_aload_n 1 rfl rfl dL_law_378 ?_
  refine u_callX [] [] l_L_56 (c_X8_undo hI1 hx) rfl rfl ⟨rfl, rfl, by decide, by decide⟩ (by decide) dL_law_379 ?_
  refine u_aload_n 2 rfl rfl dL_law_382 ?_
  refine u_callM [] [.int r] l_L_59 (c_X9_undo hI2 hm) rfl rfl ⟨rfl, rfl, by decide, by decide⟩ (by simp [Value.category]) dL_law_383 ?_
  exact u_icmp_eq 733 (by decide) dL_law_386 (fun _ => kk _ _ hR) (fun q => absurd rfl q)
theorem lc_case_11 (hI1 : fm_I w1 105) (hI2 : fm_I w2 11) (hL : L ≤ 256) {k q : Nat} (hk : 4 * k + 4 ≤ L) (hq : q < 1000) (h : Rel q ξ μ) (kk : ∀ ξ2 μ2, Rel (q + 1) ξ2 μ2 → lw_V w1 w2 b0 b L xs l ξ2 μ2 733 (lvL w1 w2 b k) []) : lw_V w1 w2 b0 b L xs l ξ μ 391 (lvL w1 w2 b k) [] := by
  obtain ⟨r, x2, m2, hx, hm, hR⟩ := R_asTold h hq (xs (4 * k + 1))
  refine u_aload_n 1 rfl rfl dL_law_391 ?_
  refine u_aload_n 0 rfl rfl dL_law_392 ?_
  refine u_iload_n 3 rfl rfl dL_law_393 ?_
  refine u_iconst (nI 1) rfl dL_law_394 ?_
  refine u_iadd dL_law_395 ?_
  refine u_sld (4 * k + 1) (nI_add _ _) hL (by omega) dL_law_396 ?_
  refine u_callX [.int (xs (4 * k + 1))] [] l_L_60 (c_X8_asTold hI1 hx) rfl rfl ⟨rfl, rfl, by decide, by decide⟩ (by decide) dL_law_397 ?_
  refine u_aload_n 2 rfl rfl dL_law_400 ?_
  refine u_aload_n 0 rfl rfl dL_law_401 ?_
  refine u_iload_n 3 rfl rfl dL_law_402 ?_
  refine u_iconst (nI 1) rfl dL_law_403 ?_
  refine u_iadd dL_law_404 ?_
  refine u_sld (4 * k + 1) (nI_add _ _) hL (by omega) dL_law_405 ?_
  refine u_callM [.int (xs (4 * k + 1))] [.int r] l_L_63 (c_X9_asTold hI2 hm) rfl rfl ⟨rfl, rfl, by decide, by decide⟩ (by simp [Value.category]) dL_law_406 ?_
  exact u_icmp_eq 733 (by decide) dL_law_409 (fun _ => kk _ _ hR) (fun q => absurd rfl q)
theorem lc_case_12 (hI1 : fm_I w1 105) (hI2 : fm_I w2 11) (hL : L ≤ 256) {k q : Nat} (hk : 4 * k + 4 ≤ L) (hq : q < 1000) (h : Rel q ξ μ) (kk : ∀ ξ2 μ2, Rel (q + 1) ξ2 μ2 → lw_V w1 w2 b0 b L xs l ξ2 μ2 733 (lvL w1 w2 b k) []) : lw_V w1 w2 b0 b L xs l ξ μ 414 (lvL w1 w2 b k) [] := by
  obtain ⟨r, x2, m2, hx, hm, hR⟩ := R_best h hq (xs (4 * k + 1))
  refine u_aload_n 1 rfl rfl dL_law_414 ?_
  refine u_aload_n 0 rfl rfl dL_law_415 ?_
  refine u_iload_n 3 rfl rfl dL_law_416 ?_
  refine u_iconst (nI 1) rfl dL_law_417 ?_
  refine u_iadd dL_law_418 ?_
  refine u_sld (4 * k + 1) (nI_add _ _) hL (by omega) dL_law_419 ?_
  refine u_callX [.int (xs (4 * k + 1))] [] l_L_64 (c_X8_best hI1 hx) rfl rfl ⟨rfl, rfl, by decide, by decide⟩ (by decide) dL_law_420 ?_
  refine u_aload_n 2 rfl rfl dL_law_423 ?_
  refine u_aload_n 0 rfl rfl dL_law_424 ?_
  refine u_iload_n 3 rfl rfl dL_law_425 ?_
  refine u_iconst (nI 1) rfl dL_law_426 ?_
  refine u_iadd dL_law_427 ?_
  refine u_sld (4 * k + 1) (nI_add _ _) hL (by omega) dL_law_428 ?_
  refine u_callM [.int (xs (4 * k + 1))] [.int r] l_L_67 (c_X9_best hI2 hm) rfl rfl ⟨rfl, rfl, by decide, by decide⟩ (by simp [Value.category]) dL_law_429 ?_
  exact u_icmp_eq 733 (by decide) dL_law_432 (fun _ => kk _ _ hR) (fun q => absurd rfl q)
theorem lc_case_13 (hI1 : fm_I w1 105) (hI2 : fm_I w2 11) (hL : L ≤ 256) {k q : Nat} (hk : 4 * k + 4 ≤ L) (hq : q < 1000) (h : Rel q ξ μ) (kk : ∀ ξ2 μ2, Rel (q + 1) ξ2 μ2 → lw_V w1 w2 b0 b L xs l ξ2 μ2 733 (lvL w1 w2 b k) []) : lw_V w1 w2 b0 b L xs l ξ μ 437 (lvL w1 w2 b k) [] := by
  obtain ⟨r, x2, m2, hx, hm, hR⟩ := R_last h hq
  refine u_aload_n 1 rfl rfl dL_law_437 ?_
  refine u_callX [] [] l_L_68 (c_X8_last hI1 hx) rfl rfl ⟨rfl, rfl, by decide, by decide⟩ (by decide) dL_law_438 ?_
  refine u_aload_n 2 rfl rfl dL_law_441 ?_
  refine u_callM [] [.int r] l_L_71 (c_X9_last hI2 hm) rfl rfl ⟨rfl, rfl, by decide, by decide⟩ (by simp [Value.category]) dL_law_442 ?_
  exact u_icmp_eq 733 (by decide) dL_law_445 (fun _ => kk _ _ hR) (fun q => absurd rfl q)
theorem lc_case_14 (hI1 : fm_I w1 105) (hI2 : fm_I w2 11) (hL : L ≤ 256) {k q : Nat} (hk : 4 * k + 4 ≤ L) (hq : q < 1000) (h : Rel q ξ μ) (kk : ∀ ξ2 μ2, Rel (q + 1) ξ2 μ2 → lw_V w1 w2 b0 b L xs l ξ2 μ2 733 (lvL w1 w2 b k) []) : lw_V w1 w2 b0 b L xs l ξ μ 450 (lvL w1 w2 b k) [] := by
  obtain ⟨r, x2, m2, hx, hm, hR⟩ := R_pays h hq
  refine u_aload_n 1 rfl rfl dL_law_450 ?_
  refine u_callX [] [] l_L_72 (c_X8_pays hI1 hx) rfl rfl ⟨rfl, rfl, by decide, by decide⟩ (by decide) dL_law_451 ?_
  refine u_aload_n 2 rfl rfl dL_law_454 ?_
  refine u_callM [] [.int r] l_L_75 (c_X9_pays hI2 hm) rfl rfl ⟨rfl, rfl, by decide, by decide⟩ (by simp [Value.category]) dL_law_455 ?_
  exact u_icmp_eq 733 (by decide) dL_law_458 (fun _ => kk _ _ hR) (fun q => absurd rfl q)
theorem lc_case_15 (hI1 : fm_I w1 105) (hI2 : fm_I w2 11) (hL : L ≤ 256) {k q : Nat} (hk : 4 * k + 4 ≤ L) (hq : q < 1000) (h : Rel q ξ μ) (kk : ∀ ξ2 μ2, Rel (q + 1) ξ2 μ2 → lw_V w1 w2 b0 b L xs l ξ2 μ2 733 (lvL w1 w2 b k) []) : lw_V w1 w2 b0 b L xs l ξ μ 463 (lvL w1 w2 b k) [] := by
  obtain ⟨r, x2, m2, hx, hm, hR⟩ := R_women h hq (xs (4 * k + 1))
  refine u_aload_n 1 rfl rfl dL_law_463 ?_
  refine u_aload_n 0 rfl rfl dL_law_464 ?_
  refine u_iload_n 3 rfl rfl dL_law_465 ?_
  refine u_iconst (nI 1) rfl dL_law_466 ?_
  refine u_iadd dL_law_467 ?_
  refine u_sld (4 * k + 1) (nI_add _ _) hL (by omega) dL_law_468 ?_
  refine u_callX [.int (xs (4 * k + 1))] [] l_L_76 (c_X8_women hI1 hx) rfl rfl ⟨rfl, rfl, by decide, by decide⟩ (by decide) dL_law_469 ?_
  refine u_aload_n 2 rfl rfl dL_law_472 ?_
  refine u_aload_n 0 rfl rfl dL_law_473 ?_
  refine u_iload_n 3 rfl rfl dL_law_474 ?_
  refine u_iconst (nI 1) rfl dL_law_475 ?_
  refine u_iadd dL_law_476 ?_
  refine u_sld (4 * k + 1) (nI_add _ _) hL (by omega) dL_law_477 ?_
  refine u_callM [.int (xs (4 * k + 1))] [.int r] l_L_79 (c_X9_women hI2 hm) rfl rfl ⟨rfl, rfl, by decide, by decide⟩ (by simp [Value.category]) dL_law_478 ?_
  exact u_icmp_eq 733 (by decide) dL_law_481 (fun _ => kk _ _ hR) (fun q => absurd rfl q)
theorem lc_case_16 (hI1 : fm_I w1 105) (hI2 : fm_I w2 11) (hL : L ≤ 256) {k q : Nat} (hk : 4 * k + 4 ≤ L) (hq : q < 1000) (h : Rel q ξ μ) (kk : ∀ ξ2 μ2, Rel (q + 1) ξ2 μ2 → lw_V w1 w2 b0 b L xs l ξ2 μ2 733 (lvL w1 w2 b k) []) : lw_V w1 w2 b0 b L xs l ξ μ 486 (lvL w1 w2 b k) [] := by
  obtain ⟨r, x2, m2, hx, hm, hR⟩ := R_seen h hq (xs (4 * k + 1)) (xs (4 * k + 2)) (xs (4 * k + 3))
  refine u_aload_n 1 rfl rfl dL_law_486 ?_
  refine u_aload_n 0 rfl rfl dL_law_487 ?_
  refine u_iload_n 3 rfl rfl dL_law_488 ?_
  refine u_iconst (nI 1) rfl dL_law_489 ?_
  refine u_iadd dL_law_490 ?_
  refine u_sld (4 * k + 1) (nI_add _ _) hL (by omega) dL_law_491 ?_
  refine u_aload_n 0 rfl rfl dL_law_492 ?_
  refine u_iload_n 3 rfl rfl dL_law_493 ?_
  refine u_iconst (nI 2) rfl dL_law_494 ?_
  refine u_iadd dL_law_495 ?_
  refine u_sld (4 * k + 2) (nI_add _ _) hL (by omega) dL_law_496 ?_
  refine u_aload_n 0 rfl rfl dL_law_497 ?_
  refine u_iload_n 3 rfl rfl dL_law_498 ?_
  refine u_iconst (nI 3) rfl dL_law_499 ?_
  refine u_iadd dL_law_500 ?_
  refine u_sld (4 * k + 3) (nI_add _ _) hL (by omega) dL_law_501 ?_
  refine u_callX [.int (xs (4 * k + 1)), .int (xs (4 * k + 2)), .int (xs (4 * k + 3))] [] l_L_80 (c_X8_seen hI1 hx) rfl rfl ⟨rfl, rfl, by decide, by decide⟩ (by decide) dL_law_502 ?_
  refine u_aload_n 2 rfl rfl dL_law_505 ?_
  refine u_aload_n 0 rfl rfl dL_law_506 ?_
  refine u_iload_n 3 rfl rfl dL_law_507 ?_
  refine u_iconst (nI 1) rfl dL_law_508 ?_
  refine u_iadd dL_law_509 ?_
  refine u_sld (4 * k + 1) (nI_add _ _) hL (by omega) dL_law_510 ?_
  refine u_aload_n 0 rfl rfl dL_law_511 ?_
  refine u_iload_n 3 rfl rfl dL_law_512 ?_
  refine u_iconst (nI 2) rfl dL_law_513 ?_
  refine u_iadd dL_law_514 ?_
  refine u_sld (4 * k + 2) (nI_add _ _) hL (by omega) dL_law_515 ?_
  refine u_aload_n 0 rfl rfl dL_law_516 ?_
  refine u_iload_n 3 rfl rfl dL_law_517 ?_
  refine u_iconst (nI 3) rfl dL_law_518 ?_
  refine u_iadd dL_law_519 ?_
  refine u_sld (4 * k + 3) (nI_add _ _) hL (by omega) dL_law_520 ?_
  refine u_callM [.int (xs (4 * k + 1)), .int (xs (4 * k + 2)), .int (xs (4 * k + 3))] [.int r] l_L_84 (c_X9_seen hI2 hm) rfl rfl ⟨rfl, rfl, by decide, by decide⟩ (by simp [Value.category]) dL_law_521 ?_
  exact u_icmp_eq 733 (by decide) dL_law_524 (fun _ => kk _ _ hR) (fun q => absurd rfl q)
theorem lc_case_17 (hI1 : fm_I w1 105) (hI2 : fm_I w2 11) (hL : L ≤ 256) {k q : Nat} (hk : 4 * k + 4 ≤ L) (hq : q < 1000) (h : Rel q ξ μ) (kk : ∀ ξ2 μ2, Rel (q + 1) ξ2 μ2 → lw_V w1 w2 b0 b L xs l ξ2 μ2 733 (lvL w1 w2 b k) []) : lw_V w1 w2 b0 b L xs l ξ μ 529 (lvL w1 w2 b k) [] := by
  obtain ⟨r, x2, m2, hx, hm, hR⟩ := R_forget h hq
  refine u_aload_n 1 rfl rfl dL_law_529 ?_
  refine u_callX [] [] l_L_85 (c_X8_forget hI1 hx) rfl rfl ⟨rfl, rfl, by decide, by decide⟩ (by decide) dL_law_530 ?_
  refine u_aload_n 2 rfl rfl dL_law_533 ?_
  refine u_callM [] [.int r] l_L_88 (c_X9_forget hI2 hm) rfl rfl ⟨rfl, rfl, by decide, by decide⟩ (by simp [Value.category]) dL_law_534 ?_
  exact u_icmp_eq 733 (by decide) dL_law_537 (fun _ => kk _ _ hR) (fun q => absurd rfl q)
theorem lc_case_18 (hI1 : fm_I w1 105) (hI2 : fm_I w2 11) (hL : L ≤ 256) {k q : Nat} (hk : 4 * k + 4 ≤ L) (hq : q < 1000) (h : Rel q ξ μ) (kk : ∀ ξ2 μ2, Rel (q + 1) ξ2 μ2 → lw_V w1 w2 b0 b L xs l ξ2 μ2 733 (lvL w1 w2 b k) []) : lw_V w1 w2 b0 b L xs l ξ μ 542 (lvL w1 w2 b k) [] := by
  obtain ⟨r, x2, m2, hx, hm, hR⟩ := R_kinds h hq (xs (4 * k + 1))
  refine u_aload_n 1 rfl rfl dL_law_542 ?_
  refine u_aload_n 0 rfl rfl dL_law_543 ?_
  refine u_iload_n 3 rfl rfl dL_law_544 ?_
  refine u_iconst (nI 1) rfl dL_law_545 ?_
  refine u_iadd dL_law_546 ?_
  refine u_sld (4 * k + 1) (nI_add _ _) hL (by omega) dL_law_547 ?_
  refine u_callX [.int (xs (4 * k + 1))] [] l_L_89 (c_X8_kinds hI1 hx) rfl rfl ⟨rfl, rfl, by decide, by decide⟩ (by decide) dL_law_548 ?_
  refine u_aload_n 2 rfl rfl dL_law_551 ?_
  refine u_aload_n 0 rfl rfl dL_law_552 ?_
  refine u_iload_n 3 rfl rfl dL_law_553 ?_
  refine u_iconst (nI 1) rfl dL_law_554 ?_
  refine u_iadd dL_law_555 ?_
  refine u_sld (4 * k + 1) (nI_add _ _) hL (by omega) dL_law_556 ?_
  refine u_callM [.int (xs (4 * k + 1))] [.int r] l_L_92 (c_X9_kinds hI2 hm) rfl rfl ⟨rfl, rfl, by decide, by decide⟩ (by simp [Value.category]) dL_law_557 ?_
  exact u_icmp_eq 733 (by decide) dL_law_560 (fun _ => kk _ _ hR) (fun q => absurd rfl q)
theorem lc_case_19 (hI1 : fm_I w1 105) (hI2 : fm_I w2 11) (hL : L ≤ 256) {k q : Nat} (hk : 4 * k + 4 ≤ L) (hq : q < 1000) (h : Rel q ξ μ) (kk : ∀ ξ2 μ2, Rel (q + 1) ξ2 μ2 → lw_V w1 w2 b0 b L xs l ξ2 μ2 733 (lvL w1 w2 b k) []) : lw_V w1 w2 b0 b L xs l ξ μ 565 (lvL w1 w2 b k) [] := by
  obtain ⟨r, x2, m2, hx, hm, hR⟩ := R_takes h hq (xs (4 * k + 1)) (xs (4 * k + 2))
  refine u_aload_n 1 rfl rfl dL_law_565 ?_
  refine u_aload_n 0 rfl rfl dL_law_566 ?_
  refine u_iload_n 3 rfl rfl dL_law_567 ?_
  refine u_iconst (nI 1) rfl dL_law_568 ?_
  refine u_iadd dL_law_569 ?_
  refine u_sld (4 * k + 1) (nI_add _ _) hL (by omega) dL_law_570 ?_
  refine u_aload_n 0 rfl rfl dL_law_571 ?_
  refine u_iload_n 3 rfl rfl dL_law_572 ?_
  refine u_iconst (nI 2) rfl dL_law_573 ?_
  refine u_iadd dL_law_574 ?_
  refine u_sld (4 * k + 2) (nI_add _ _) hL (by omega) dL_law_575 ?_
  refine u_callX [.int (xs (4 * k + 1)), .int (xs (4 * k + 2))] [] l_L_93 (c_X8_takes hI1 hx) rfl rfl ⟨rfl, rfl, by decide, by decide⟩ (by decide) dL_law_576 ?_
  refine u_aload_n 2 rfl rfl dL_law_579 ?_
  refine u_aload_n 0 rfl rfl dL_law_580 ?_
  refine u_iload_n 3 rfl rfl dL_law_581 ?_
  refine u_iconst (nI 1) rfl dL_law_582 ?_
  refine u_iadd dL_law_583 ?_
  refine u_sld (4 * k + 1) (nI_add _ _) hL (by omega) dL_law_584 ?_
  refine u_aload_n 0 rfl rfl dL_law_585 ?_
  refine u_iload_n 3 rfl rfl dL_law_586 ?_
  refine u_iconst (nI 2) rfl dL_law_587 ?_
  refine u_iadd dL_law_588 ?_
  refine u_sld (4 * k + 2) (nI_add _ _) hL (by omega) dL_law_589 ?_
  refine u_callM [.int (xs (4 * k + 1)), .int (xs (4 * k + 2))] [.int r] l_L_96 (c_X9_takes hI2 hm) rfl rfl ⟨rfl, rfl, by decide, by decide⟩ (by simp [Value.category]) dL_law_590 ?_
  exact u_icmp_eq 733 (by decide) dL_law_593 (fun _ => kk _ _ hR) (fun q => absurd rfl q)
theorem lc_case_20 (hI1 : fm_I w1 105) (hI2 : fm_I w2 11) (hL : L ≤ 256) {k q : Nat} (hk : 4 * k + 4 ≤ L) (hq : q < 1000) (h : Rel q ξ μ) (kk : ∀ ξ2 μ2, Rel (q + 1) ξ2 μ2 → lw_V w1 w2 b0 b L xs l ξ2 μ2 733 (lvL w1 w2 b k) []) : lw_V w1 w2 b0 b L xs l ξ μ 598 (lvL w1 w2 b k) [] := by
  obtain ⟨r, x2, m2, hx, hm, hR⟩ := R_must h hq (xs (4 * k + 1)) (xs (4 * k + 2)) (xs (4 * k + 3))
  refine u_aload_n 1 rfl rfl dL_law_598 ?_
  refine u_aload_n 0 rfl rfl dL_law_599 ?_
  refine u_iload_n 3 rfl rfl dL_law_600 ?_
  refine u_iconst (nI 1) rfl dL_law_601 ?_
  refine u_iadd dL_law_602 ?_
  refine u_sld (4 * k + 1) (nI_add _ _) hL (by omega) dL_law_603 ?_
  refine u_aload_n 0 rfl rfl dL_law_604 ?_
  refine u_iload_n 3 rfl rfl dL_law_605 ?_
  refine u_iconst (nI 2) rfl dL_law_606 ?_
  refine u_iadd dL_law_607 ?_
  refine u_sld (4 * k + 2) (nI_add _ _) hL (by omega) dL_law_608 ?_
  refine u_aload_n 0 rfl rfl dL_law_609 ?_
  refine u_iload_n 3 rfl rfl dL_law_610 ?_
  refine u_iconst (nI 3) rfl dL_law_611 ?_
  refine u_iadd dL_law_612 ?_
  refine u_sld (4 * k + 3) (nI_add _ _) hL (by omega) dL_law_613 ?_
  refine u_callX [.int (xs (4 * k + 1)), .int (xs (4 * k + 2)), .int (xs (4 * k + 3))] [] l_L_97 (c_X8_must hI1 hx) rfl rfl ⟨rfl, rfl, by decide, by decide⟩ (by decide) dL_law_614 ?_
  refine u_aload_n 2 rfl rfl dL_law_617 ?_
  refine u_aload_n 0 rfl rfl dL_law_618 ?_
  refine u_iload_n 3 rfl rfl dL_law_619 ?_
  refine u_iconst (nI 1) rfl dL_law_620 ?_
  refine u_iadd dL_law_621 ?_
  refine u_sld (4 * k + 1) (nI_add _ _) hL (by omega) dL_law_622 ?_
  refine u_aload_n 0 rfl rfl dL_law_623 ?_
  refine u_iload_n 3 rfl rfl dL_law_624 ?_
  refine u_iconst (nI 2) rfl dL_law_625 ?_
  refine u_iadd dL_law_626 ?_
  refine u_sld (4 * k + 2) (nI_add _ _) hL (by omega) dL_law_627 ?_
  refine u_aload_n 0 rfl rfl dL_law_628 ?_
  refine u_iload_n 3 rfl rfl dL_law_629 ?_
  refine u_iconst (nI 3) rfl dL_law_630 ?_
  refine u_iadd dL_law_631 ?_
  refine u_sld (4 * k + 3) (nI_add _ _) hL (by omega) dL_law_632 ?_
  refine u_callM [.int (xs (4 * k + 1)), .int (xs (4 * k + 2)), .int (xs (4 * k + 3))] [.int r] l_L_100 (c_X9_must hI2 hm) rfl rfl ⟨rfl, rfl, by decide, by decide⟩ (by simp [Value.category]) dL_law_633 ?_
  exact u_icmp_eq 733 (by decide) dL_law_636 (fun _ => kk _ _ hR) (fun q => absurd rfl q)
theorem lc_case_21 (hI1 : fm_I w1 105) (hI2 : fm_I w2 11) (hL : L ≤ 256) {k q : Nat} (hk : 4 * k + 4 ≤ L) (hq : q < 1000) (h : Rel q ξ μ) (kk : ∀ ξ2 μ2, Rel (q + 1) ξ2 μ2 → lw_V w1 w2 b0 b L xs l ξ2 μ2 733 (lvL w1 w2 b k) []) : lw_V w1 w2 b0 b L xs l ξ μ 641 (lvL w1 w2 b k) [] := by
  obtain ⟨r, x2, m2, hx, hm, hR⟩ := R_morning h hq (xs (4 * k + 1)) (xs (4 * k + 2)) (xs (4 * k + 3))
  refine u_aload_n 1 rfl rfl dL_law_641 ?_
  refine u_aload_n 0 rfl rfl dL_law_642 ?_
  refine u_iload_n 3 rfl rfl dL_law_643 ?_
  refine u_iconst (nI 1) rfl dL_law_644 ?_
  refine u_iadd dL_law_645 ?_
  refine u_sld (4 * k + 1) (nI_add _ _) hL (by omega) dL_law_646 ?_
  refine u_aload_n 0 rfl rfl dL_law_647 ?_
  refine u_iload_n 3 rfl rfl dL_law_648 ?_
  refine u_iconst (nI 2) rfl dL_law_649 ?_
  refine u_iadd dL_law_650 ?_
  refine u_sld (4 * k + 2) (nI_add _ _) hL (by omega) dL_law_651 ?_
  refine u_aload_n 0 rfl rfl dL_law_652 ?_
  refine u_iload_n 3 rfl rfl dL_law_653 ?_
  refine u_iconst (nI 3) rfl dL_law_654 ?_
  refine u_iadd dL_law_655 ?_
  refine u_sld (4 * k + 3) (nI_add _ _) hL (by omega) dL_law_656 ?_
  refine u_callX [.int (xs (4 * k + 1)), .int (xs (4 * k + 2)), .int (xs (4 * k + 3))] [] l_L_101 (c_X8_morning hI1 hx) rfl rfl ⟨rfl, rfl, by decide, by decide⟩ (by decide) dL_law_657 ?_
  refine u_aload_n 2 rfl rfl dL_law_660 ?_
  refine u_aload_n 0 rfl rfl dL_law_661 ?_
  refine u_iload_n 3 rfl rfl dL_law_662 ?_
  refine u_iconst (nI 1) rfl dL_law_663 ?_
  refine u_iadd dL_law_664 ?_
  refine u_sld (4 * k + 1) (nI_add _ _) hL (by omega) dL_law_665 ?_
  refine u_aload_n 0 rfl rfl dL_law_666 ?_
  refine u_iload_n 3 rfl rfl dL_law_667 ?_
  refine u_iconst (nI 2) rfl dL_law_668 ?_
  refine u_iadd dL_law_669 ?_
  refine u_sld (4 * k + 2) (nI_add _ _) hL (by omega) dL_law_670 ?_
  refine u_aload_n 0 rfl rfl dL_law_671 ?_
  refine u_iload_n 3 rfl rfl dL_law_672 ?_
  refine u_iconst (nI 3) rfl dL_law_673 ?_
  refine u_iadd dL_law_674 ?_
  refine u_sld (4 * k + 3) (nI_add _ _) hL (by omega) dL_law_675 ?_
  refine u_callM [.int (xs (4 * k + 1)), .int (xs (4 * k + 2)), .int (xs (4 * k + 3))] [.int r] l_L_104 (c_X9_morning hI2 hm) rfl rfl ⟨rfl, rfl, by decide, by decide⟩ (by simp [Value.category]) dL_law_676 ?_
  exact u_icmp_eq 733 (by decide) dL_law_679 (fun _ => kk _ _ hR) (fun q => absurd rfl q)
theorem lc_case_22 (hI1 : fm_I w1 105) (hI2 : fm_I w2 11) (hL : L ≤ 256) {k q : Nat} (hk : 4 * k + 4 ≤ L) (hq : q < 1000) (h : Rel q ξ μ) (kk : ∀ ξ2 μ2, Rel (q + 1) ξ2 μ2 → lw_V w1 w2 b0 b L xs l ξ2 μ2 733 (lvL w1 w2 b k) []) : lw_V w1 w2 b0 b L xs l ξ μ 684 (lvL w1 w2 b k) [] := by
  obtain ⟨r, x2, m2, hx, hm, hR⟩ := R_keep h hq
  refine u_aload_n 1 rfl rfl dL_law_684 ?_
  refine u_callX [] [] l_L_105 (c_X8_keep hI1 hx) rfl rfl ⟨rfl, rfl, by decide, by decide⟩ (by decide) dL_law_685 ?_
  refine u_aload_n 2 rfl rfl dL_law_688 ?_
  refine u_callM [] [.int r] l_L_108 (c_X9_keep hI2 hm) rfl rfl ⟨rfl, rfl, by decide, by decide⟩ (by simp [Value.category]) dL_law_689 ?_
  exact u_icmp_eq 733 (by decide) dL_law_692 (fun _ => kk _ _ hR) (fun q => absurd rfl q)
theorem lc_case_23 (hI1 : fm_I w1 105) (hI2 : fm_I w2 11) (hL : L ≤ 256) {k q : Nat} (hk : 4 * k + 4 ≤ L) (hq : q < 1000) (h : Rel q ξ μ) (kk : ∀ ξ2 μ2, Rel (q + 1) ξ2 μ2 → lw_V w1 w2 b0 b L xs l ξ2 μ2 733 (lvL w1 w2 b k) []) : lw_V w1 w2 b0 b L xs l ξ μ 697 (lvL w1 w2 b k) [] := by
  obtain ⟨r, x2, m2, hx, hm, hR⟩ := R_back h hq
  refine u_aload_n 1 rfl rfl dL_law_697 ?_
  refine u_callX [] [] l_L_109 (c_X8_back hI1 hx) rfl rfl ⟨rfl, rfl, by decide, by decide⟩ (by decide) dL_law_698 ?_
  refine u_aload_n 2 rfl rfl dL_law_701 ?_
  refine u_callM [] [.int r] l_L_112 (c_X9_back hI2 hm) rfl rfl ⟨rfl, rfl, by decide, by decide⟩ (by simp [Value.category]) dL_law_702 ?_
  exact u_icmp_eq 733 (by decide) dL_law_705 (fun _ => kk _ _ hR) (fun q => absurd rfl q)
theorem lc_case_24 (hI1 : fm_I w1 105) (hI2 : fm_I w2 11) (hL : L ≤ 256) {k q : Nat} (hk : 4 * k + 4 ≤ L) (hq : q < 1000) (h : Rel q ξ μ) (kk : ∀ ξ2 μ2, Rel (q + 1) ξ2 μ2 → lw_V w1 w2 b0 b L xs l ξ2 μ2 733 (lvL w1 w2 b k) []) : lw_V w1 w2 b0 b L xs l ξ μ 710 (lvL w1 w2 b k) [] := by
  obtain ⟨r, x2, m2, hx, hm, hR⟩ := R_count h hq (xs (4 * k + 1))
  refine u_aload_n 1 rfl rfl dL_law_710 ?_
  refine u_aload_n 0 rfl rfl dL_law_711 ?_
  refine u_iload_n 3 rfl rfl dL_law_712 ?_
  refine u_iconst (nI 1) rfl dL_law_713 ?_
  refine u_iadd dL_law_714 ?_
  refine u_sld (4 * k + 1) (nI_add _ _) hL (by omega) dL_law_715 ?_
  refine u_callX [.int (xs (4 * k + 1))] [] l_L_113 (c_X8_count hI1 hx) rfl rfl ⟨rfl, rfl, by decide, by decide⟩ (by decide) dL_law_716 ?_
  refine u_aload_n 2 rfl rfl dL_law_719 ?_
  refine u_aload_n 0 rfl rfl dL_law_720 ?_
  refine u_iload_n 3 rfl rfl dL_law_721 ?_
  refine u_iconst (nI 1) rfl dL_law_722 ?_
  refine u_iadd dL_law_723 ?_
  refine u_sld (4 * k + 1) (nI_add _ _) hL (by omega) dL_law_724 ?_
  refine u_callM [.int (xs (4 * k + 1))] [.int r] l_L_116 (c_X9_count hI2 hm) rfl rfl ⟨rfl, rfl, by decide, by decide⟩ (by simp [Value.category]) dL_law_725 ?_
  exact u_icmp_eq 733 (by decide) dL_law_728 (fun _ => kk _ _ hR) (fun q => absurd rfl q)
end LAW
