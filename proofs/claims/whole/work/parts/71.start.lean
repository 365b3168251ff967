/-! the law's entry: the worlds, the makings, the loop -/
theorem lw_size {p : Program} {l : Launch} {e : Env} {R : Room} {s : State} {m : MethodId} {args : Array Value} {below : List Frame} {meth : Method} {c : Code} {H : Heap} {locs : List Loc} {cells slots bb N : Nat} {Q : State → Prop} {g : JFrame} {w : fm_W} {lay : Nat → fm_L} {τ : fm_M} (hz0 : s.heap.size + cells = bb + N) (hB : mk_B w bb N) (hN1 : 1 ≤ N) (hP : fm_P w lay N τ H) (k : H.size = bb + N → W p l e R s m args below meth c H locs cells slots Q g) : W p l e R s m args below meth c H locs cells slots Q g := by
  intro T hT X
  have h1 := X.same.2.2.1
  have h2 : T.heap = H := by first | exact hT.1 | exact hT.2 | exact hT.2.1 | exact hT
  have h3 : (T.setVm s.vm).heap.size = H.size := by rw [← h2]; rfl
  have h4 := (hP.1 (N - 1) _ (fm_ws_get (by omega))).lt
  have h5 : fm_ad w (N - 1) < H.size := h4
  rw [hB.2 (N - 1) (by omega)] at h5
  exact k (by omega) T hT X
theorem law_make {p : Program} {l : Launch} {e : Env} {s : State} {m : MethodId} {b : Nat} {below : List Frame} {meth : Method} {c : Code} {cells slots pc : Nat} {Q : State → Prop} {H : Heap} {locs : List Loc} {ls : Array Slot} {rest : List Value} {w : fm_W} {lay : Nat → fm_L} {N bb b0 : Nat} {y : MethodName} {c2 : ByteArray} {nL2 : Nat} {rm : Room} {ci M : Nat} {fs : List Value} {idxN idxC : Nat} {post : fm_M → Prop} {mc ms : Nat}
    (hx : p.tables.exec = Jvm.exec) (hb : c.code = code) (hml : c.maxLocals = 4) (hown : s.vm.findClass RL = some m.cls) (hg : ∀ x ∈ gw, x.before #[Value.ref b] s = true) (hls : ls.size = 4)
    (hB : mk_B w bb N) (hK : mk_K w bb s) (hb0 : s.heap.size = b0) (hbb : b0 + cells = bb) (hS : va_S (mk_A b0) s.heap H locs) (hsz : H.size = bb)
    (hnw : fm_nw RL idxN ci M fs) (hlc : fm_lw RL idxC y c2 nL2 none 0) (hi : Cond.instanceMethod y ∈ gw) (hy : y.name = "<init>")
    (hC : mk_C w lay s0 bb N l y c2 nL2 rm [.ref (fm_ad w 0)] 1 (mk_op (fun _ => none) 0 (some (.inr (ci, fs)))) (va_Qv (S := fm_M) post (fun τ t => fm_P w lay N τ t.heap) (mk_A bb)) mc ms)
    (hN : N = mc + 1) (hR : rm.cells = mc ∧ rm.slots = ms ∧ rm.frames + 1 ≤ 9 ∧ 8 + (nL2 + 11) + rm.locals ≤ 314) (hcs : cells + 1 + mc ≤ 600000 ∧ slots + M + ms ≤ 7302250) (hW : ((Value.ref (fm_ad w 0) :: rest).map fun v => v.category).sum ≤ 8)
    (hd1 : decode code pc = .ok (.new idxN, 3)) (hd2 : decode code (pc + 3) = .ok (.dup, 1)) (hd3 : decode code (pc + 3 + 1) = .ok (.invokespecial idxC, 3))
    (kk : ∀ (τ : fm_M) (H1 : Heap) (locs1 : List Loc), post τ → fm_P w lay N τ H1 → va_S (mk_A b0) s.heap H1 locs1 → H1.size = bb + N → (∀ q, q < bb → H1[q]? = H[q]?) → W p l e room_1 s m #[Value.ref b] below meth c H1 locs1 (cells + 1 + mc) (slots + M + ms) Q (F0 m (pc + 3 + 1 + 3) ls (.ref (fm_ad w 0) :: rest))) :
    W p l e room_1 s m #[Value.ref b] below meth c H locs cells slots Q (F0 m pc ls rest) := by
  obtain ⟨C, T, ty0, g1, g2, g3, g4, g5, g6, g7⟩ := hnw
  have hKn := hK.1.1 ci _ g1
  refine W.newcK hx hb hown (hg _ g4) (hg _ g5) (hg _ g6) rfl hd1 (by show cells + 1 ≤ 600000; omega) (by show slots + M ≤ 7302250; omega) hKn.2.1 hsz fun H1 kC hkC e1 z1 o1 => ?_
  have had : fm_ad w 0 = bb := by rw [hB.2 0 (by omega)]; omega
  refine W.eq (g2 := F0 m (pc + 3) ls (.ref (fm_ad w 0) :: rest)) (by rw [had]) ?_
  refine lv_dup hx hb hd2 rfl ?_
  have hP1 : mk_P w lay s0 bb 1 (mk_op (fun _ => none) 0 (some (.inr (ci, fs)))) H1 := by
    refine ⟨fun i q hq => ?_, by omega⟩
    have hi1 : i < 1 := by
      have := (List.getElem?_eq_some_iff.mp hq).1
      rwa [mk_W_len] at this
    have hi0 : i = 0 := by omega
    subst hi0
    rw [mk_W_get hi1, mk_op_eq, Option.getD_some, had] at hq
    cases hq
    exact ⟨_, g1, (u_born ty0 hg g2 hKn hkC e1 g3).to g7⟩
  have hS1 : va_S (mk_A b0) s.heap H1 locs := ⟨Nat.le_trans hS.1 (by omega), fun q h1 h2 => (o1 q (by omega)).trans (hS.2.1 q h1 h2), hS.2.2⟩
  have hSb : va_S (mk_A bb) s.heap H1 [] := ⟨hS1.1, fun q h1 h2 => hS1.2.1 q h1 (by show ¬ b0 ≤ q; omega), fun z hz => by simp at hz⟩
  obtain ⟨f1, f2, f3, f4⟩ := hlc
  have hCB : CallB room_1 s #[Value.ref b] RL idxC y c2 nL2 none (.code y c2 nL2 none :: gw) rm mc ms 0 := callB_of (Ts := gw) 0 hg (gw_good f1 (fun _ h => h)) rfl hR.1 hR.2.1 (hg _ f2) (hg _ f3) f4 hR.2.2
  refine va_callv (A1 := mk_A bb) (va_runI (Ts := gw) (As := []) (rest := .ref (fm_ad w 0) :: rest) ⟨hx, hb, hml, hown, hg⟩ hC ⟨hCB, hy, hg _ hi⟩ ⟨fun a U g mk q => ?_, fun U hU hW' => ⟨rfl, by rw [hU]; exact hP1, hK.on hSb hU hW', by rw [hU]; exact z1⟩⟩ rfl rfl hls rfl (lv_room hW) hd3 hcs) hS1 (fun q _ h9 => ?_) (fun q h9 => ?_) (fun τ t H2 locs2 ht hvm hp hB1 hz2 hk2 hS2 => ?_)
  · obtain ⟨q0, q1, q2, q3⟩ := q
    exact ⟨q0, q1, q2.calling, q3⟩
  · have h8 : bb ≤ q := h9
    show b0 ≤ q
    omega
  · have h8 : bb ≤ q := h9
    show b0 ≤ q
    omega
  · rw [ht] at hB1
    exact lw_size (by omega) hB (by omega) hB1 (fun hsz2 => kk τ H2 locs2 hp hB1 hS2 hsz2 (fun q hq => (hk2 q (by omega) (by show ¬ bb ≤ q; omega)).trans (o1 q hq)))
theorem va_T.cg {ty : FieldType} {t N : Nat} {f g : Nat → Value} {A : Nat → Prop} {U : State} {H : Heap} (h : va_T ty t N f A U H) (hfg : ∀ j, j < N → f j = g j) : va_T ty t N g A U H := by
  obtain ⟨cell, h1, h2, h3, h4, h5, h6, h7⟩ := h
  exact ⟨cell, h1, h2, h3, h4, h5, fun j hj => by rw [h6 j hj, hfg j hj], h7⟩
theorem mem_tbl {w : Cond} (i : Nat) (h : tables_1[i]? = some w) : w ∈ lw_tbl := List.mem_append_right _ (List.mem_of_getElem? h)
theorem fl_str : ∀ j, j < 43 → Cond.eq (.elem (.field (.string "SnowSuits" 70) "java/lang/String" "value" "[B") (.int (Int32.ofNat j))) (.int (nI (tF j))) ∈ flatC (Jvm.Cond.and given_1 narrow_1) := by decide +kernel
theorem fl_tab : ∀ j, j < 6 → Cond.eq (.elem (.static "SnowSuits" "BY_NUMBER" "[I") (.int (Int32.ofNat j))) (.int (nI j)) ∈ flatC (Jvm.Cond.and given_1 narrow_1) := by decide +kernel
/-- the text FIRST_TEXT, as the Statement gives it -/
theorem law_text {s : State} {b : Nat} (hts : ∀ w ∈ lw_tbl, w.before #[Value.ref b] s = true) (hgv : (Jvm.Cond.and given_1 narrow_1).before #[Value.ref b] s = true) : ∃ j, mk_J (mk_A s.heap.size) j s := by
  have hs := flat_of_before _ hgv
  have hA : ∀ a : Nat, a < s.heap.size → ¬ mk_A s.heap.size a := fun a h q => Nat.not_le.mpr h q
  obtain ⟨adK, adV, hE, hev⟩ := vk_Sof (args := #[Value.ref b]) (s := s) (N := 1) (tm := fun _ => .string "SnowSuits" 70) (len := [43]) (byt := [tL.map nI]) (A := mk_A s.heap.size)
    (fun i hi => by have e : i = 0 := by omega
                    subst e; decide)
    (fun i hi => hs _ (by decide +kernel)) (fun i hi => hs _ (by decide +kernel)) (fun i hi => hs _ (by decide +kernel))
    (fun i hi => by have e : i = 0 := by omega
                    subst e; exact hs _ (by decide +kernel))
    (fun i hi j hj => by
      have e : i = 0 := by omega
      subst e
      have h2 : (([tL.map nI] : List (List Int32)).getD 0 []).getD j 0 = nI (tF j) := (show ∀ j, j < 43 → (([tL.map nI] : List (List Int32)).getD 0 []).getD j 0 = nI (tF j) by decide +kernel) j hj
      rw [h2]
      exact hs _ (fl_str j hj))
    (fun i j hi hj hij => absurd (by omega) hij) hA
  obtain ⟨h1, h2, h3, h4⟩ := hE.1 0 (by omega)
  have hz := va_Zof (A := mk_A s.heap.size) (hts _ (mem_tbl 244 (by decide +kernel))) (hts (.initialized "java/lang/String") (mem_tbl 10 (by decide +kernel))) (va_eqt (hs (Cond.eq (.static "java/lang/String" "COMPACT_STRINGS" "Z") (.int 1)) (by decide +kernel))) hA
  have hq := va_Zqof (A := mk_A s.heap.size) (hts (.laysStatic "jdk/internal/util/Preconditions" "SIOOBE_FORMATTER" "Ljava/util/function/BiFunction;") (mem_tbl 260 (by decide +kernel))) (hts (.initialized "jdk/internal/util/Preconditions") (mem_tbl 12 (by decide +kernel))) (hs (Cond.isRef (.static "jdk/internal/util/Preconditions" "SIOOBE_FORMATTER" "Ljava/util/function/BiFunction;")) (by decide +kernel)) hA
  have h4' : va_T .byte (adV 0) 43 (fun k => .int (nI (tF k))) (mk_A s.heap.size) s s.heap := va_T.cg h4 (fun j hj => by
    rw [(show ∀ j, j < 43 → (([tL.map nI] : List (List Int32)).getD 0 []).getD j 0 = nI (tF j) by decide +kernel) j hj])
  have hR : vk_R "SnowSuits" 70 "c0,4;c1,5;c2,3;c3,4;c0,6;c1,3;w2;h5;g3;l40;" (adK 0) s := vk_R.of (hts _ (mem_tbl 234 (by decide +kernel))) (hev 0 (by omega))
  rcases hq with hq | ⟨t, hq⟩
  · exact ⟨(adK 0, adV 0, .null), hR, h1, h2, h3, h4', hz, hq, rfl⟩
  · exact ⟨(adK 0, adV 0, .ref t), hR, h1, h2, h3, h4', hz, hq, rfl⟩
set_option maxRecDepth 100000 in
theorem law_world {p : Program} {s : State} {m : MethodId} {meth : Method} {c : Code} {b L : Nat} {xs : Nat → Int32} (C0 : lw_At p s m meth c b L xs) : ∃ (D : va_G) (ty : Nat → ClassId) (t : Nat), ∀ ad : Nat → Nat, mk_K (D, ty, t, ad) s.heap.size s := by
  obtain ⟨hx, hb, hr, hml, hown, hts, hX, hbl, hlocks, hgv⟩ := C0
  have hg : ∀ x ∈ gw, x.before #[Value.ref b] s = true := fun x hx => hts x (gw_tbl hx)
  have hs := flat_of_before _ hgv
  have hA : ∀ a : Nat, a < s.heap.size → ¬ mk_A s.heap.size a := fun a h q => Nat.not_le.mpr h q
  obtain ⟨c0, i0, k0⟩ := u_known (C := RX1) (T := TX1) (N := 4) (n := 4) hg inX1g (hg _ wis_X1)
  obtain ⟨c1, i1, k1⟩ := u_known (C := RX2) (T := TX2) (N := 11) (n := 11) hg inX2g (hg _ wis_X2)
  obtain ⟨c2, i2, k2⟩ := u_known (C := RX3) (T := TX3) (N := 3) (n := 3) hg inX3g (hg _ wis_X3)
  obtain ⟨c3, i3, k3⟩ := u_known (C := RX4) (T := TX4) (N := 7) (n := 7) hg inX4g (hg _ wis_X4)
  obtain ⟨c4, i4, k4⟩ := u_known (C := RX5) (T := TX5) (N := 7) (n := 7) hg inX5g (hg _ wis_X5)
  obtain ⟨c5, i5, k5⟩ := u_known (C := RX6) (T := TX6) (N := 4) (n := 4) hg inX6g (hg _ wis_X6)
  obtain ⟨c6, i6, k6⟩ := u_known (C := RX7) (T := TX7) (N := 2) (n := 2) hg inX7g (hg _ wis_X7)
  obtain ⟨c7, i7, k7⟩ := u_known (C := RX8) (T := TX8) (N := 9) (n := 9) hg inX8g (hg _ wis_X8)
  obtain ⟨c8, i8, k8⟩ := u_known (C := RX9) (T := TX9) (N := 16) (n := 16) hg inX9g (hg _ wis_X9)
  obtain ⟨D, hD⟩ : ∃ D : va_G, ∀ (k : Nat) (q : vw_C), vwCl[k]? = some q → u_Kn s q.1 q.2.1 q.2.2 (D.1 k) (D.2 k) := by
    refine ⟨(fun k => if k = 0 then c0 else if k = 1 then c1 else if k = 2 then c2 else if k = 3 then c3 else if k = 4 then c4 else if k = 5 then c5 else if k = 6 then c6 else if k = 7 then c7 else c8, fun k => if k = 0 then i0 else if k = 1 then i1 else if k = 2 then i2 else if k = 3 then i3 else if k = 4 then i4 else if k = 5 then i5 else if k = 6 then i6 else if k = 7 then i7 else i8), ?_⟩
    intro k q hq
    match k, hq with
    | 0, hq => cases hq; exact k0
    | 1, hq => cases hq; exact k1
    | 2, hq => cases hq; exact k2
    | 3, hq => cases hq; exact k3
    | 4, hq => cases hq; exact k4
    | 5, hq => cases hq; exact k5
    | 6, hq => cases hq; exact k6
    | 7, hq => cases hq; exact k7
    | 8, hq => cases hq; exact k8
    | k + 9, hq => simp [vwCl] at hq
  obtain ⟨a0, z0, y0, p0, p1, p2⟩ := Cond.arrayClass_spec (hg _ wa_int)
  obtain ⟨a1, z1, y1, p3, p4, p5⟩ := Cond.arrayClass_spec (hg _ wa_char)
  obtain ⟨a2, z2, y2, p6, p7, p8⟩ := Cond.arrayClass_spec (hg _ wa_boolean)
  have hov : (Cond.arrayOver (.object "SnowSuits$Hall")).before #[Value.ref b] s = true := hts _ (mem_tbl 143 (by decide +kernel))
  obtain ⟨y3, a3, z3, r1, r2, r3, r4, r5⟩ := Cond.arrayOver_spec hov
  obtain ⟨t, ht, hT⟩ := va_Tof (args := #[Value.ref b]) (s := s) (tm := .static "SnowSuits" "BY_NUMBER" "[I") (ty := .int) (N := 6) (f := fun j => .int (nI j)) (A := mk_A s.heap.size) (by decide) (hs _ (by decide +kernel)) (va_eqt (hs (Cond.eq (.length (.static "SnowSuits" "BY_NUMBER" "[I")) (.int 6)) (by decide +kernel))) (fun j hj => va_eqt (hs _ (fl_tab j hj))) hA
  have hZ := va_Zof (A := mk_A s.heap.size) (hts (.laysStatic "SnowSuits" "BY_NUMBER" "[I") (mem_tbl 536 (by decide +kernel))) (hg _ wn_X8) ht hA
  refine ⟨D, fun k => if k = 0 then a0 else if k = 1 then a1 else if k = 2 then a2 else a3, t, fun ad => ⟨⟨hD, fun k q hq => ?_⟩, fun x hx => va_Nw.of (fm_nest_on (List.mem_filter.mp hx).2) (hts x (List.mem_append_right _ (List.mem_filter.mp hx).1)), hZ, hT, va_AO.of hov, law_text hts hgv⟩⟩
  match k, hq with
  | 0, hq => cases hq; exact ⟨fun n z => ⟨(fun k h => by cases h), z0, p1, y0, p2⟩, p0⟩
  | 1, hq => cases hq; exact ⟨fun n z => ⟨(fun k h => by cases h), z1, p4, y1, p5⟩, p3⟩
  | 2, hq => cases hq; exact ⟨fun n z => ⟨(fun k h => by cases h), z2, p7, y2, p8⟩, p6⟩
  | 3, hq => cases hq; exact ⟨fun n z => ⟨(fun k h => by cases h), z3, r3, y3, r4⟩, z3, y3, r3, r4, r1, r5⟩
  | k + 4, hq => simp [fm_ty] at hq
theorem mk_K.later {w : fm_W} {b0 b1 : Nat} {U : State} (h : mk_K w b0 U) (hb : b0 ≤ b1) : mk_K w b1 U := by
  obtain ⟨h1, h2, h3, h4, h5, j, j1, j2, j3, j4, j5, j6, j7, j8⟩ := h
  have hq : ∀ q, mk_A b1 q → mk_A b0 q := fun q hq => Nat.le_trans hb hq
  exact ⟨h1, h2, h3.narrow hq, h4.narrow hq, h5, j, j1, j2.narrow hq, j3.narrow hq, j4.narrow hq, j5.narrow hq, j6.narrow hq, j7.narrow hq, j8⟩
theorem whole_start {p : Program} {e : Env} {s : State} {m : MethodId} {below : List Frame} {meth : Method} {c : Code} (l : Launch) (hflags : l.flags = flags0) {b L : Nat} {xs : Nat → Int32} (hL : L ≤ 256) (C0 : lw_At p s m meth c b L xs) : W p l e room_1 s m #[Value.ref b] below meth c s.heap [] 0 0 (lw_Z below #[Value.ref b] s) (entryFrame m ([Value.ref b] : List Value).toArray 4) := by
  obtain ⟨hx, hb, hr, hml, hown, hts, hX, hbl, hlocks, hgv⟩ := id C0
  have hg : ∀ x ∈ gw, x.before #[Value.ref b] s = true := fun x hx => hts x (gw_tbl hx)
  obtain ⟨D, ty, t, hK⟩ := law_world C0
  obtain ⟨w1, hw1⟩ : ∃ w : fm_W, w = (D, ty, t, fun c => s.heap.size + c) := ⟨_, rfl⟩
  obtain ⟨w2, hw2⟩ : ∃ w : fm_W, w = (D, ty, t, fun c => s.heap.size + 105 + c) := ⟨_, rfl⟩
  have hK1 : mk_K w1 s.heap.size s := by rw [hw1]; exact hK _
  have hK2 : mk_K w2 s.heap.size s := by rw [hw2]; exact hK _
  have hB1 : mk_B w1 s.heap.size 105 := ⟨by omega, fun c hc => by
    rw [hw1]; unfold fm_ad; rw [if_neg (by omega)]⟩
  have hB2 : mk_B w2 (s.heap.size + 105) 11 := ⟨by omega, fun c hc => by
    rw [hw2]; unfold fm_ad; rw [if_neg (by omega)]⟩
  rw [lg_entry_eq]
  have h0 := fm_ent (as := [Value.ref b]) (nL := 4) (by simp [Value.category]) (by simp)
  generalize (lg_sl [Value.ref b] ++ List.replicate (4 - (lg_sl [Value.ref b]).length) Slot.unset).toArray = ls at h0 ⊢
  have h0 : fm_has ls 4 [some (.ref b), none, none, none] := h0
  refine law_make hx hb hml hown hg h0.1 hB1 hK1 rfl (Nat.add_zero _) va_S.rf rfl nw_L_7 lc_L_9 wi_X8_init rfl (i_X8 hB1) rfl ⟨rfl, rfl, by decide, by decide⟩ ⟨by decide, by decide⟩ (by simp [Value.category]) dL_law_0 dL_law_3 dL_law_4 (fun ξ H1 locs1 hXS hP1 hS1 hz1 _ => ?_)
  refine lv_astore_n hx hb dL_law_7 rfl h0.to (by decide) rfl (fun ls1 h1 => ?_)
  have h1 : fm_has ls1 4 [some (.ref b), some (.ref (fm_ad w1 0)), none, none] := h0.set (i := 1) (by decide) rfl h1
  refine law_make hx hb hml hown hg h1.1 hB2 (hK2.later (Nat.le_add_right _ _)) rfl rfl hS1 hz1 nw_L_10 lc_L_12 wi_X9_init rfl (i_X9 hB2) rfl ⟨rfl, rfl, by decide, by decide⟩ ⟨by decide, by decide⟩ (by simp [Value.category]) dL_law_8 dL_law_11 dL_law_12 (fun μ H2 locs2 hMS hM2 hS2 hz2 hq2 => ?_)
  have hP2 : fm_P w1 layX 105 ξ H2 := hP1.off (B := fun q => s.heap.size + 105 ≤ q) (fun q _ h9 => hq2 q (by omega)) (fun c hc => by rw [hB1.2 c hc]; omega)
  have K : lw_V w1 w2 s.heap.size b L xs l ξ μ 15 [some (.ref b), some (.ref (fm_ad w1 0)), none, none] [.ref (fm_ad w2 0)] := by
    refine u_astore_n 2 rfl (by decide) rfl rfl dL_law_15 ?_
    refine u_iconst (nI 0) rfl dL_law_16 ?_
    refine u_istore_n 3 rfl (by decide) rfl rfl dL_law_17 ?_
    exact law_loop (mk_I hB1) (mk_I hB2) hL (L + 1) 0 0 ξ μ (by omega) (by omega) (by omega) (Rel_0 hXS hMS)
  exact K p e s m below meth c ⟨hx, hb, C0, hK1, hK2, hB1, hB2, rfl⟩ H2 locs2 ls1 hP2 hM2 hS2 h1
