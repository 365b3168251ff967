/-! the rows as the program that lays the walks uses them -/
def fm_le : List (Option Value) → List (Option Value) → Prop
  | [], _ => True
  | none :: a, _ :: b => fm_le a b
  | some v :: a, x :: b => x = some v ∧ fm_le a b
  | _ :: _, [] => False
theorem fm_le_get : ∀ {a b : List (Option Value)}, fm_le a b → ∀ (i : Nat) (v : Value), a[i]? = some (some v) → b[i]? = some (some v)
  | [], _, _, i, v, h => by simp at h
  | none :: a, x :: b, h, 0, v, hi => by simp at hi
  | none :: a, x :: b, h, i + 1, v, hi => by
    rw [List.getElem?_cons_succ] at hi ⊢
    exact fm_le_get (a := a) (b := b) h i v hi
  | some u :: a, x :: b, h, 0, v, hi => by
    have h1 : x = some u := h.1
    rw [List.getElem?_cons_zero] at hi ⊢
    rw [h1]
    exact hi
  | some u :: a, x :: b, h, i + 1, v, hi => by
    rw [List.getElem?_cons_succ] at hi ⊢
    exact fm_le_get (a := a) (b := b) h.2 i v hi
  | none :: a, [], h, _, _, _ => h.elim
  | some u :: a, [], h, _, _, _ => h.elim
section FMG
variable {w : fm_W} {lay : Nat → fm_L} {N : Nat} {l : Launch} {R : Room} {cc : ByteArray} {nL : Nat} {own : String} {ret : Option FieldType} {o : fm_O} {pc : Nat} {lv : List (Option Value)} {st : List Value} {σ σ2 : fm_M}
theorem v_lw (lv' : List (Option Value)) (hl : lv'.length = nL) (hs : fm_le lv' lv) (k : fm_V w lay N l R cc nL own ret o pc lv' st σ) : fm_V w lay N l R cc nL own ret o pc lv st σ := v_lv hl (fm_le_get hs) k
theorem v_geti {a ci kf idx : Nat} {tm : List (Option Nat)} (hg : fm_gf own idx ci kf) (hy : lay a = .inr (ci, tm)) (ha : a < N) (hk : tm[kf]? = some none) (hd : decode cc pc = .ok (.getfield idx, 3)) (k : fm_V w lay N l R cc nL own ret o (pc + 3) lv (.int (σ a kf) :: st) σ) : fm_V w lay N l R cc nL own ret o pc lv (.ref (fm_ad w a) :: st) σ := v_get hg hy ha hk hd k
theorem v_getr {a ci kf idx : Nat} (b : Nat) {tm : List (Option Nat)} (hg : fm_gf own idx ci kf) (hy : lay a = .inr (ci, tm)) (ha : a < N) (hk : tm[kf]? = some (some b)) (hd : decode cc pc = .ok (.getfield idx, 3)) (k : fm_V w lay N l R cc nL own ret o (pc + 3) lv (.ref (fm_ad w b) :: st) σ) : fm_V w lay N l R cc nL own ret o pc lv (.ref (fm_ad w a) :: st) σ := v_get hg hy ha hk hd k
theorem v_cVi {idx : Nat} {y : MethodName} {c2 : ByteArray} {nL2 n ci b : Nat} {ret2 : Option FieldType} {rm : Room} (As rest : List Value) {tm : List (Option Nat)} {r : Int32} (hL : fm_lV own idx y c2 nL2 ret2 n ci) (hC : fm_C w lay N l y c2 nL2 ret2 rm (.ref (fm_ad w b) :: As) σ (some (.int r), σ2)) (hy : lay b = .inr (ci, tm)) (hb : b < N) (hn : As.length = n) (hst : st = As.reverse ++ .ref (fm_ad w b) :: rest) (hR : rm.cells = 0 ∧ rm.slots = 0 ∧ rm.frames + 1 ≤ R.frames ∧ 8 + (nL2 + 11) + rm.locals ≤ R.locals) (hW : (rest.map fun v => v.category).sum ≤ 8) (hd : decode cc pc = .ok (.invokevirtual idx, 3)) (k : fm_V w lay N l R cc nL own ret o (pc + 3) lv (.int r :: rest) σ2) : fm_V w lay N l R cc nL own ret o pc lv st σ := v_callV hL hC hy hb hn hst hR hW hd k
theorem v_cVv {idx : Nat} {y : MethodName} {c2 : ByteArray} {nL2 n ci b : Nat} {ret2 : Option FieldType} {rm : Room} (As rest : List Value) {tm : List (Option Nat)} (hL : fm_lV own idx y c2 nL2 ret2 n ci) (hC : fm_C w lay N l y c2 nL2 ret2 rm (.ref (fm_ad w b) :: As) σ (none, σ2)) (hy : lay b = .inr (ci, tm)) (hb : b < N) (hn : As.length = n) (hst : st = As.reverse ++ .ref (fm_ad w b) :: rest) (hR : rm.cells = 0 ∧ rm.slots = 0 ∧ rm.frames + 1 ≤ R.frames ∧ 8 + (nL2 + 11) + rm.locals ≤ R.locals) (hW : (rest.map fun v => v.category).sum ≤ 8) (hd : decode cc pc = .ok (.invokevirtual idx, 3)) (k : fm_V w lay N l R cc nL own ret o (pc + 3) lv rest σ2) : fm_V w lay N l R cc nL own ret o pc lv st σ := v_callV hL hC hy hb hn hst hR hW hd k
theorem v_cSi {idx : Nat} {y : MethodName} {c2 : ByteArray} {nL2 n : Nat} {ret2 : Option FieldType} {rm : Room} (As rest : List Value) {r : Int32} (hL : fm_lS own idx y c2 nL2 ret2 n) (hC : fm_C w lay N l y c2 nL2 ret2 rm As σ (some (.int r), σ2)) (hn : As.length = n) (hst : st = As.reverse ++ rest) (hR : rm.cells = 0 ∧ rm.slots = 0 ∧ rm.frames + 1 ≤ R.frames ∧ 8 + (nL2 + 11) + rm.locals ≤ R.locals) (hW : (rest.map fun v => v.category).sum ≤ 8) (hd : decode cc pc = .ok (.invokestatic idx, 3)) (k : fm_V w lay N l R cc nL own ret o (pc + 3) lv (.int r :: rest) σ2) : fm_V w lay N l R cc nL own ret o pc lv st σ := v_callS hL hC hn hst hR hW hd k
theorem fm_of {y : MethodName} {rm : Room} {as : List Value} (hI : fm_I w N) (hy : plainName y.cls = true) (hc : (as.all fun v => v.category == 1) = true) (hn : as.length ≤ nL) (hV : fm_V w lay N l rm cc nL y.cls ret o 0 (as.map some ++ List.replicate (nL - as.length) none) [] σ) : fm_C w lay N l y cc nL ret rm as σ o :=
  fm_ofV hI hy (fun v hv => by simpa using List.all_eq_true.mp hc v hv) hn hV
/-- System.arraycopy out of the class's table -/
theorem v_copyT {a n1 idx : Nat} (hw : fm_cpw own idx) (ha : a < N) (hya : lay a = .inl (0, n1)) (hq : 6 ≤ n1) (hz : n1 < 2 ^ 31) {xs xd xn : Int32} (es : nI 0 = xs) (ed : nI 0 = xd) (en : nI 6 = xn) (hR : 1 ≤ R.frames ∧ (st.map fun v => v.category).sum + (nativeFrameWords "java/lang/System" "arraycopy" 5 + 11) ≤ R.locals) (hd : decode cc pc = .ok (.invokestatic idx, 3)) (k : fm_V w lay N l R cc nL own ret o (pc + 3) lv st (fm_cp σ 1000 0 a 0 6)) : fm_V w lay N l R cc nL own ret o pc lv (.int xn :: .int xd :: .ref (fm_ad w a) :: .int xs :: .ref (fm_ad w 1000) :: st) σ := by
  intro p e s m args below meth c X H locs ls hP hS h
  subst es; subst ed; subst en
  have hI := X.2.2.2.2.2.2.2.2
  have hD := fm_D (lay := lay) hI σ
  have hg := X.2.2.2.2.2.1
  have hK := X.2.2.2.2.2.2.2.1.1
  have ha1 : (fm_ws w lay N σ)[a]? = some (fm_ad w a, .inl (w.2.1 0, n1, .inl (σ a))) := by rw [fm_ws_get ha, fm_ce_arr hya (by decide)]
  have ht1 : (fm_ty w)[0]? = some (w.2.1 0, .int) := rfl
  intro T hT Y
  obtain ⟨scr, t1, t2, t3, t4, t5, t6, t7⟩ := X.2.2.2.2.2.2.2.1.2.2.2
  have hbl : fm_ad w 1000 < s.heap.size := (Array.getElem?_eq_some_iff.mp t1).1
  have hc0 : H[fm_ad w 1000]? = some scr := by rw [hS.2.1 _ hbl t7]; exact t1
  have hc1 : H[fm_ad w a]? = some (vp_cell (w.2.1 0) (n1, .inl (σ a))) := hP.1 a _ ha1
  obtain ⟨hs6, k0, hk0, cm0, hkk0⟩ := t2
  obtain ⟨-, k1, hk1, cm1, hkk1⟩ := (hK.2 0 _ ht1).1 n1 (fun j => .int (σ a j))
  have z0 : (nI 0).toNatClampNeg = 0 := nI_clamp (by decide)
  have z6 : (nI 6).toNatClampNeg = 6 := nI_clamp (by decide)
  have i0 : (nI 0).toInt = 0 := nI_toInt (n := 0) (by decide)
  have i6 : (nI 6).toInt = 6 := nI_toInt (n := 6) (by decide)
  obtain ⟨vm', Y', step⟩ := Y.arraycopy X.1 X.2.2.2.2.1 (hg _ hw.1) (hg _ hw.2.1) (hg _ hw.2.2.1) (hg _ hw.2.2.2) (src := fm_ad w 1000) (dst := fm_ad w a) (cs := scr) (cd := vp_cell (w.2.1 0) (n1, .inl (σ a))) (srcPos := nI 0) (destPos := nI 0) (n := nI 6) (by rw [hT]; exact hc0) (by rw [hT]; exact hc1)
    hs6 (fun _ h => by cases h) t3 (fun h => by cases h) hk0 hk1 hkk0 hkk1 (by simp [refKind]) (nI_pos (by decide)) (nI_pos (by decide)) (nI_pos (by decide))
    (by rw [i0, i6]; omega)
    (by rw [i0, i6]; show ¬ _ > ((arrV (w.2.1 0) n1 (fun j => .int (σ a j))).slots.size : Int); rw [arrV_size]; omega)
    (fun vm₁ _ i hi => by
      have hi6 : i < 6 := by rw [z6] at hi; exact hi
      have e : scr.slots.getD ((nI 0).toNatClampNeg + i) .null = .int (σ 1000 i) := by
        rw [z0, Nat.zero_add, Array.getD_eq_getD_getElem?, t6 _ hi6, hP.2 i hi6]
        rfl
      refine ⟨?_, ?_⟩
      · rw [e]; rfl
      · rw [e]; exact trivial)
    (g := F0 m pc ls (.int (nI 6) :: .int (nI 0) :: .ref (fm_ad w a) :: .int (nI 0) :: .ref (fm_ad w 1000) :: st)) rfl (by rw [X.2.2.2.1, ← h.1]) (rest := st) rfl (by rw [X.2.1]; exact hd) hR.1 (by have := hR.2; show 2 * 0 + _ + _ ≤ _; omega)
  have e1 : copied scr (vp_cell (w.2.1 0) (n1, .inl (σ a))) (nI 0) (nI 0) (nI 6) = vp_cell (w.2.1 0) (n1, .inl (va_cpy (σ 1000) (σ a) 0 0 6)) := by
    have e2 := va_copiedX (fun z => .int z) scr (w.2.1 0) (n0 := 6) (n1 := n1) (sp := 0) (dp := 0) (n := 6) (σ 1000) (σ a) (fun j hj => by rw [t6 j hj, hP.2 j hj]) (by omega)
    unfold copied
    rw [z0, z6]
    exact e2
  rw [e1] at Y' step
  have hl : fm_ad w a < H.size := (Array.getElem?_eq_some_iff.mp hc1).1
  have oq : ∀ q : Nat, q ≠ fm_ad w a → (H.setIfInBounds (fm_ad w a) (vp_cell (w.2.1 0) (n1, .inl (va_cpy (σ 1000) (σ a) 0 0 6))))[q]? = H[q]? := fun q hq => by simp [Array.getElem?_setIfInBounds, Ne.symm hq]
  have hP1 := hP.1.set (e := .inl (w.2.1 0, n1, .inl (va_cpy (σ 1000) (σ a) 0 0 6))) hD ha1 (show (H.setIfInBounds (fm_ad w a) _)[fm_ad w a]? = some _ by simp [Array.getElem?_setIfInBounds, hl]) oq
  obtain ⟨t, a1, b1⟩ := k p e s m args below meth c X _ _ ls (fm_P.st (f := va_cpy (σ 1000) (σ a) 0 0 6) hI.1 ha hP (by rw [fm_ce_arr hya (by decide), fm_st_eq]) hP1) ⟨by simp; exact hS.1, fun q g1 g2 => by
      rw [oq q (fun e => g2 (by rw [e]; exact hD.2 a _ ha1))]
      exact hS.2.1 q g1 g2, fun q hq => by
      rcases List.mem_append.mp hq with h | h
      · exact hS.2.2 q h
      · obtain ⟨z, -, hz⟩ := List.mem_map.mp h
        rw [← hz]
        exact hD.2 a _ ha1⟩ h _ (by rw [← hT]; rfl) Y'
  exact ⟨t, step t a1, b1⟩
theorem v_getsN {idx : Nat} {host : String} (hl : Cond.fieldLinkNest own idx "SnowSuits" "BY_NUMBER" "[I" host ∈ fm_nest) (hd : decode cc pc = .ok (.getstatic idx, 3)) (k : fm_V w lay N l R cc nL own ret o (pc + 3) lv (.ref (fm_ad w 1000) :: st) σ) : fm_V w lay N l R cc nL own ret o pc lv st σ := by
  intro p e s m args below meth c X H locs ls hP hS h
  exact va_getsN X.1 X.2.1 X.2.2.2.2.2.2.2.1.2.2.1 hS X.2.2.2.2.1 (va_Nw.use rfl (X.2.2.2.2.2.2.2.1.2.1 _ hl)) (fun _ h => h) hd (k p e s m args below meth c X H locs ls hP hS h)
end FMG
