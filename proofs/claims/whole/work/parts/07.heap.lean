/-! rows of the heap and of calls -/
def fm_gf (own : String) (idx ci k : Nat) : Prop := ∃ (C : String) (T : u_T) (n : Nat), vwCl[ci]? = some (C, T, n) ∧ (∀ x ∈ u_ws C T n, x ∈ gw) ∧ k < n ∧ (Cond.fieldLink own idx (T k).1 (T k).2.1 (T k).2.2.1 ∈ gw ∨ ∃ host : String, Cond.fieldLinkNest own idx (T k).1 (T k).2.1 (T k).2.2.1 host ∈ fm_nest)
def fm_pf (own : String) (idx ci k : Nat) (ty : FieldType) : Prop := ∃ (C : String) (T : u_T) (n : Nat) (ty0 : Nat → FieldType), vwCl[ci]? = some (C, T, n) ∧ (∀ x ∈ u_ws C T n, x ∈ gw) ∧ k < n ∧ (Cond.fieldLink own idx (T k).1 (T k).2.1 (T k).2.2.1 ∈ gw ∨ ∃ host : String, Cond.fieldLinkNest own idx (T k).1 (T k).2.1 (T k).2.2.1 host ∈ fm_nest) ∧ (∀ k, k < n → parseFieldDescriptor (T k).2.2.1 = some (ty0 k)) ∧ (∀ a, a < n → ∀ b, b < n → a ≠ b → (T a).2.1 ≠ (T b).2.1) ∧ (T k).2.2.2 = false ∧ parseFieldDescriptor (T k).2.2.1 = some ty
/-- an int array that can be read: a cell, or the table -/
def fm_rd (lay : Nat → fm_L) (N a n : Nat) : Prop := (a < N ∧ lay a = .inl (0, n)) ∨ (a = 1000 ∧ n = 6)
theorem fm_P.st {w : fm_W} {lay : Nat → fm_L} {N : Nat} {σ : fm_M} {a : Nat} {f : Nat → Int32} {H H1 : Heap} {x : va_E} (hN : N ≤ 1000) (ha : a < N) (hP : fm_P w lay N σ H) (hx : x = fm_ce w lay (fm_st σ a f) a) (h : va_P w.1 vwCl ((fm_ws w lay N σ).set a (fm_ad w a, x)) H1) : fm_P w lay N (fm_st σ a f) H1 := by
  refine ⟨?_, fun j hj => ?_⟩
  · rw [fm_ws_set ha hx] at h; exact h
  · rw [fm_st_ne (by omega)]; exact hP.2 j hj
section FMH
variable {w : fm_W} {lay : Nat → fm_L} {N : Nat} {l : Launch} {R : Room} {cc : ByteArray} {nL : Nat} {own : String} {ret : Option FieldType} {o : fm_O} {pc : Nat} {lv lv' : List (Option Value)} {st : List Value} {σ : fm_M}
theorem v_get {a ci kf idx : Nat} {tm : List (Option Nat)} {q : Option Nat} (hg : fm_gf own idx ci kf) (hy : lay a = .inr (ci, tm)) (ha : a < N) (hk : tm[kf]? = some q) (hd : decode cc pc = .ok (.getfield idx, 3)) (k : fm_V w lay N l R cc nL own ret o (pc + 3) lv (fm_fv (fm_ad w) (σ a) kf q :: st) σ) : fm_V w lay N l R cc nL own ret o pc lv (.ref (fm_ad w a) :: st) σ := by
  intro p e s m args below meth c X H locs ls hP hS h
  obtain ⟨C, T, n, g1, g2, g3, g4⟩ := hg
  have he : (fm_ws w lay N σ)[a]? = some (fm_ad w a, .inr (ci, fm_fl (fm_ad w) (σ a) 0 tm)) := by rw [fm_ws_get ha, fm_ce_obj hy]
  have hv : (fm_fl (fm_ad w) (σ a) 0 tm)[kf]? = some (fm_fv (fm_ad w) (σ a) kf q) := by rw [fm_fl_get, hk, Nat.zero_add]; rfl
  rcases g4 with g4 | ⟨host, g4⟩
  · exact va_get X.1 X.2.1 X.2.2.2.2.2.1 g2 X.2.2.2.2.1 X.2.2.2.2.2.2.2.1.1 hP.1 a he g1 _ g3 (X.2.2.2.2.2.1 _ g4) (fun _ h => h) hv hd (k p e s m args below meth c X H locs ls hP hS h)
  · exact va_getN X.1 X.2.1 X.2.2.2.2.2.1 g2 X.2.2.2.2.1 X.2.2.2.2.2.2.2.1.1 hP.1 a he g1 _ g3 (va_Nw.use rfl (X.2.2.2.2.2.2.2.1.2.1 _ g4)) (fun _ h => h) hv hd (k p e s m args below meth c X H locs ls hP hS h)
theorem v_put {a ci kf idx : Nat} {tm : List (Option Nat)} {ty : FieldType} {x : Int32} (hg : fm_pf own idx ci kf ty) (hy : lay a = .inr (ci, tm)) (ha : a < N) (hk : tm[kf]? = some none) (hn : narrow ty (.int x) = .int x ∧ fits ty (.int x) = true) (hd : decode cc pc = .ok (.putfield idx, 3)) (k : fm_V w lay N l R cc nL own ret o (pc + 3) lv st (fm_up σ a kf x)) : fm_V w lay N l R cc nL own ret o pc lv (.int x :: .ref (fm_ad w a) :: st) σ := by
  intro p e s m args below meth c X H locs ls hP hS h
  obtain ⟨C, T, n, ty0, g1, g2, g3, g4, g5, g6, g7, g8⟩ := hg
  have hI := X.2.2.2.2.2.2.2.2
  have he : (fm_ws w lay N σ)[a]? = some (fm_ad w a, .inr (ci, fm_fl (fm_ad w) (σ a) 0 tm)) := by rw [fm_ws_get ha, fm_ce_obj hy]
  have hlen : kf < (fm_fl (fm_ad w) (σ a) 0 tm).length := by rw [fm_fl_len]; exact (List.getElem?_eq_some_iff.mp hk).1
  have hx : (Sum.inr (ci, (fm_fl (fm_ad w) (σ a) 0 tm).set kf (.int x)) : va_E) = fm_ce w lay (fm_st σ a (upd (σ a) kf x)) a := by rw [fm_ce_obj hy, fm_st_eq, fm_fl_set _ _ _ _ _ hk]
  rcases g4 with g4 | ⟨host, g4⟩
  · exact va_put X.1 X.2.1 X.2.2.2.2.2.1 g2 ty0 g5 g6 X.2.2.2.2.1 X.2.2.2.2.2.2.2.1.1 hP.1 (fm_D hI σ) hS a he g1 _ g3 (X.2.2.2.2.2.1 _ g4) (fun _ h => h) g7 g8 hn.1 hn.2 hlen hd (fun H1 locs1 hP1 _ hS1 => k p e s m args below meth c X H1 locs1 ls (fm_P.st hI.1 ha hP hx hP1) hS1 h)
  · exact va_putN X.1 X.2.1 X.2.2.2.2.2.1 g2 ty0 g5 g6 X.2.2.2.2.1 X.2.2.2.2.2.2.2.1.1 hP.1 (fm_D hI σ) hS a he g1 _ g3 (va_Nw.use rfl (X.2.2.2.2.2.2.2.1.2.1 _ g4)) (fun _ h => h) g7 g8 hn.1 hn.2 hlen hd (fun H1 locs1 hP1 _ hS1 => k p e s m args below meth c X H1 locs1 ls (fm_P.st hI.1 ha hP hx hP1) hS1 h)
theorem v_iald {a n : Nat} {i : Int32} (hr : fm_rd lay N a n) (hi : fm_in i n = true) (hd : decode cc pc = .ok (.iaload, 1)) (k : fm_V w lay N l R cc nL own ret o (pc + 1) lv (.int (σ a i.toNatClampNeg) :: st) σ) : fm_V w lay N l R cc nL own ret o pc lv (.int i :: .ref (fm_ad w a) :: st) σ := by
  intro p e s m args below meth c X H locs ls hP hS h
  rcases hr with ⟨ha, hy⟩ | ⟨rfl, rfl⟩
  · exact va_iald X.1 X.2.1 X.2.2.2.2.2.2.2.1.1 hP.1 a 0 (by rw [fm_ws_get ha, fm_ce_arr hy (by decide)]) rfl (fm_in_vp hi) hd (k p e s m args below meth c X H locs ls hP hS h)
  · have hv : (Value.int (nI i.toNatClampNeg)) = .int (σ 1000 i.toNatClampNeg) := by
      rw [hP.2 _ (Nat.not_le.mp fun q => fm_in_vp hi (Or.inr q))]
    exact va_ti X.1 X.2.1 X.2.2.2.2.2.2.2.1.2.2.2 hS (fm_in_vp hi) hv hd (k p e s m args below meth c X H locs ls hP hS h)
theorem v_alen {a n : Nat} (v : Int32) (hr : fm_rd lay N a n) (hv : Int32.ofNat n = v) (hd : decode cc pc = .ok (.arraylength, 1)) (k : fm_V w lay N l R cc nL own ret o (pc + 1) lv (.int v :: st) σ) : fm_V w lay N l R cc nL own ret o pc lv (.ref (fm_ad w a) :: st) σ := by
  intro p e s m args below meth c X H locs ls hP hS h
  rcases hr with ⟨ha, hy⟩ | ⟨rfl, rfl⟩
  · exact va_alen X.1 X.2.1 X.2.2.2.2.2.2.2.1.1 hP.1 a 0 (by rw [fm_ws_get ha, fm_ce_arr hy (by decide)]) (ty := .int) rfl hv hd (k p e s m args below meth c X H locs ls hP hS h)
  · exact va_tlen X.1 X.2.1 X.2.2.2.2.2.2.2.1.2.2.2 hS hv hd (k p e s m args below meth c X H locs ls hP hS h)
theorem v_clen {a n : Nat} (v : Int32) (ha : a < N) (hy : lay a = .inl (1, n)) (hv : Int32.ofNat n = v) (hd : decode cc pc = .ok (.arraylength, 1)) (k : fm_V w lay N l R cc nL own ret o (pc + 1) lv (.int v :: st) σ) : fm_V w lay N l R cc nL own ret o pc lv (.ref (fm_ad w a) :: st) σ := by
  intro p e s m args below meth c X H locs ls hP hS h
  exact va_alen X.1 X.2.1 X.2.2.2.2.2.2.2.1.1 hP.1 a 1 (by rw [fm_ws_get ha, fm_ce_arr hy (by decide)]) (ty := .char) rfl hv hd (k p e s m args below meth c X H locs ls hP hS h)
theorem v_qlen {a n : Nat} (v : Int32) (ha : a < N) (hy : lay a = .inl (3, n)) (hv : Int32.ofNat n = v) (hd : decode cc pc = .ok (.arraylength, 1)) (k : fm_V w lay N l R cc nL own ret o (pc + 1) lv (.int v :: st) σ) : fm_V w lay N l R cc nL own ret o pc lv (.ref (fm_ad w a) :: st) σ := by
  intro p e s m args below meth c X H locs ls hP hS h
  exact va_alen X.1 X.2.1 X.2.2.2.2.2.2.2.1.1 hP.1 a 3 (by rw [fm_ws_get ha, fm_ce_arq hy]) (ty := .object "SnowSuits$Hall") rfl hv hd (k p e s m args below meth c X H locs ls hP hS h)
theorem v_aald {a n : Nat} {i : Int32} (ha : a < N) (hy : lay a = .inl (3, n)) (hi : fm_in i n = true) (hd : decode cc pc = .ok (.aaload, 1)) (k : fm_V w lay N l R cc nL own ret o (pc + 1) lv (.ref (fm_ad w (a + 1 + 7 * i.toNatClampNeg)) :: st) σ) : fm_V w lay N l R cc nL own ret o pc lv (.int i :: .ref (fm_ad w a) :: st) σ := by
  intro p e s m args below meth c X H locs ls hP hS h
  exact va_aldq (f := fun j => some (fm_ad w (a + 1 + 7 * j))) X.1 X.2.1 X.2.2.2.2.2.2.2.1.1 hP.1 a 3 (by rw [fm_ws_get ha, fm_ce_arq hy]) rfl (fm_in_vp hi) hd (k p e s m args below meth c X H locs ls hP hS h)
theorem v_cald {a n : Nat} {i : Int32} (ha : a < N) (hy : lay a = .inl (1, n)) (hi : fm_in i n = true) (hd : decode cc pc = .ok (.caload, 1)) (k : fm_V w lay N l R cc nL own ret o (pc + 1) lv (.int (σ a i.toNatClampNeg) :: st) σ) : fm_V w lay N l R cc nL own ret o pc lv (.int i :: .ref (fm_ad w a) :: st) σ := by
  intro p e s m args below meth c X H locs ls hP hS h
  exact va_cald X.1 X.2.1 X.2.2.2.2.2.2.2.1.1 hP.1 a 1 (by rw [fm_ws_get ha, fm_ce_arr hy (by decide)]) rfl (fm_in_vp hi) hd (k p e s m args below meth c X H locs ls hP hS h)
theorem v_zald {a n : Nat} {i : Int32} (ha : a < N) (hy : lay a = .inl (2, n)) (hi : fm_in i n = true) (hd : decode cc pc = .ok (.baload, 1)) (k : fm_V w lay N l R cc nL own ret o (pc + 1) lv (.int (σ a i.toNatClampNeg) :: st) σ) : fm_V w lay N l R cc nL own ret o pc lv (.int i :: .ref (fm_ad w a) :: st) σ := by
  intro p e s m args below meth c X H locs ls hP hS h
  exact va_zald X.1 X.2.1 X.2.2.2.2.2.2.2.1.1 hP.1 a 2 (by rw [fm_ws_get ha, fm_ce_arr hy (by decide)]) rfl (fm_in_vp hi) hd (k p e s m args below meth c X H locs ls hP hS h)
theorem v_iast {a n : Nat} {i x : Int32} (ha : a < N) (hy : lay a = .inl (0, n)) (hi : fm_in i n = true) (hd : decode cc pc = .ok (.iastore, 1)) (k : fm_V w lay N l R cc nL own ret o (pc + 1) lv st (fm_up σ a i.toNatClampNeg x)) : fm_V w lay N l R cc nL own ret o pc lv (.int x :: .int i :: .ref (fm_ad w a) :: st) σ := by
  intro p e s m args below meth c X H locs ls hP hS h
  have hI := X.2.2.2.2.2.2.2.2
  refine va_iast X.1 X.2.1 X.2.2.2.2.2.2.2.1.1 hP.1 (fm_D hI σ) hS a 0 (by rw [fm_ws_get ha, fm_ce_arr hy (by decide)]) rfl (fm_in_vp hi) hd (fun H1 locs1 hP1 _ hS1 => k p e s m args below meth c X H1 locs1 ls (fm_P.st hI.1 ha hP ?_ hP1) hS1 h)
  rw [fm_ce_arr hy (by decide), fm_st_eq]
theorem v_cast {a n : Nat} {i x : Int32} (ha : a < N) (hy : lay a = .inl (1, n)) (hi : fm_in i n = true) (hd : decode cc pc = .ok (.castore, 1)) (k : fm_V w lay N l R cc nL own ret o (pc + 1) lv st (fm_up σ a i.toNatClampNeg (vp_nar .char x))) : fm_V w lay N l R cc nL own ret o pc lv (.int x :: .int i :: .ref (fm_ad w a) :: st) σ := by
  intro p e s m args below meth c X H locs ls hP hS h
  have hI := X.2.2.2.2.2.2.2.2
  refine va_cast X.1 X.2.1 X.2.2.2.2.2.2.2.1.1 hP.1 (fm_D hI σ) hS a 1 (by rw [fm_ws_get ha, fm_ce_arr hy (by decide)]) rfl (fm_in_vp hi) hd (fun H1 locs1 hP1 _ hS1 => k p e s m args below meth c X H1 locs1 ls (fm_P.st hI.1 ha hP ?_ hP1) hS1 h)
  rw [fm_ce_arr hy (by decide), fm_st_eq]
theorem v_zast {a n : Nat} {i x : Int32} (ha : a < N) (hy : lay a = .inl (2, n)) (hi : fm_in i n = true) (hd : decode cc pc = .ok (.bastore, 1)) (k : fm_V w lay N l R cc nL own ret o (pc + 1) lv st (fm_up σ a i.toNatClampNeg (vp_nar .boolean x))) : fm_V w lay N l R cc nL own ret o pc lv (.int x :: .int i :: .ref (fm_ad w a) :: st) σ := by
  intro p e s m args below meth c X H locs ls hP hS h
  have hI := X.2.2.2.2.2.2.2.2
  refine va_zast X.1 X.2.1 X.2.2.2.2.2.2.2.1.1 hP.1 (fm_D hI σ) hS a 2 (by rw [fm_ws_get ha, fm_ce_arr hy (by decide)]) rfl (fm_in_vp hi) hd (fun H1 locs1 hP1 _ hS1 => k p e s m args below meth c X H1 locs1 ls (fm_P.st hI.1 ha hP ?_ hP1) hS1 h)
  rw [fm_ce_arr hy (by decide), fm_st_eq]
def fm_cpw (own : String) (idx : Nat) : Prop := Cond.methodLink own idx arraycopyName ∈ gw ∧ Cond.native arraycopyName ∈ gw ∧ Cond.static arraycopyName ∈ gw ∧ Cond.initialized "java/lang/System" ∈ gw
theorem v_copy {a b n0 n1 idx : Nat} (sp dp n : Nat) (hw : fm_cpw own idx) (hb : b < N) (ha : a < N) (hyb : lay b = .inl (0, n0)) (hya : lay a = .inl (0, n1)) (hs : sp + n ≤ n0) (hq : dp + n ≤ n1) (hz : n0 < 2 ^ 31 ∧ n1 < 2 ^ 31) {xs xd xn : Int32} (es : nI sp = xs) (ed : nI dp = xd) (en : nI n = xn) (hR : 1 ≤ R.frames ∧ (st.map fun v => v.category).sum + (nativeFrameWords "java/lang/System" "arraycopy" 5 + 11) ≤ R.locals) (hd : decode cc pc = .ok (.invokestatic idx, 3)) (k : fm_V w lay N l R cc nL own ret o (pc + 3) lv st (fm_cp σ b sp a dp n)) : fm_V w lay N l R cc nL own ret o pc lv (.int xn :: .int xd :: .ref (fm_ad w a) :: .int xs :: .ref (fm_ad w b) :: st) σ := by
  intro p e s m args below meth c X H locs ls hP hS h
  have hI := X.2.2.2.2.2.2.2.2
  subst es; subst ed; subst en
  have c1 : (nI sp).toNatClampNeg = sp := nI_clamp (by omega)
  have c2 : (nI dp).toNatClampNeg = dp := nI_clamp (by omega)
  have c3 : (nI n).toNatClampNeg = n := nI_clamp (by omega)
  refine va_copyi (ty := .int) X.1 X.2.1 (by rw [X.2.2.2.1, h.1]) X.2.2.2.2.1 (X.2.2.2.2.2.1 _ hw.1) (X.2.2.2.2.2.1 _ hw.2.1) (X.2.2.2.2.2.1 _ hw.2.2.1) (X.2.2.2.2.2.1 _ hw.2.2.2) X.2.2.2.2.2.2.2.1.1 hP.1 (fm_D hI σ) hS b a 0 0 (by rw [fm_ws_get hb, fm_ce_arr hyb (by decide)]) (by rw [fm_ws_get ha, fm_ce_arr hya (by decide)]) rfl rfl rfl (nI_pos (by omega)) (nI_pos (by omega)) (nI_pos (by omega)) (by rw [c1, c3]; exact hs) (by rw [c2, c3]; exact hq) (fun _ _ => rfl) hR.1 hR.2 hd (fun H1 locs1 hP1 _ hS1 => k p e s m args below meth c X H1 locs1 ls (fm_P.st hI.1 ha hP ?_ hP1) hS1 h)
  rw [fm_ce_arr hya (by decide), fm_st_eq, c1, c2, c3]
theorem v_gets {idx : Nat} (hl : Cond.fieldLink own idx "SnowSuits" "BY_NUMBER" "[I" ∈ gw) (hd : decode cc pc = .ok (.getstatic idx, 3)) (k : fm_V w lay N l R cc nL own ret o (pc + 3) lv (.ref (fm_ad w 1000) :: st) σ) : fm_V w lay N l R cc nL own ret o pc lv st σ := by
  intro p e s m args below meth c X H locs ls hP hS h
  exact va_gets X.1 X.2.1 X.2.2.2.2.2.2.2.1.2.2.1 hS X.2.2.2.2.1 (X.2.2.2.2.2.1 _ hl) (fun _ h => h) hd (k p e s m args below meth c X H locs ls hP hS h)
def fm_mmw (own : String) (idx : Nat) (y : MethodName) (b : ByteArray) : Prop := Cond.methodLink own idx y ∈ gw ∧ Cond.static y ∈ gw ∧ Cond.initialized "java/lang/Math" ∈ gw ∧ Cond.code y b 2 (some .int) ∈ gw
theorem v_mmin {idx : Nat} {x y : Int32} (hw : fm_mmw own idx Lib.Math.min.name Lib.Math.min.code) (hR : 1 ≤ R.frames ∧ (st.map fun v => v.category).sum + 13 ≤ R.locals) (hd : decode cc pc = .ok (.invokestatic idx, 3)) (k : fm_V w lay N l R cc nL own ret o (pc + 3) lv (.int (if y < x then y else x) :: st) σ) : fm_V w lay N l R cc nL own ret o pc lv (.int y :: .int x :: st) σ := by
  intro p e s m args below meth c X H locs ls hP hS h
  exact va_mmin X.1 X.2.1 (by rw [X.2.2.2.1, h.1]) X.2.2.2.2.1 (X.2.2.2.2.2.1 _ hw.1) (X.2.2.2.2.2.1 _ hw.2.1) (X.2.2.2.2.2.1 _ hw.2.2.1) (X.2.2.2.2.2.1 _ hw.2.2.2) hR.1 hR.2 (Nat.zero_le _) (Nat.zero_le _) hd (k p e s m args below meth c X H locs ls hP hS h)
theorem v_mmax {idx : Nat} {x y : Int32} (hw : fm_mmw own idx Lib.Math.max.name Lib.Math.max.code) (hR : 1 ≤ R.frames ∧ (st.map fun v => v.category).sum + 13 ≤ R.locals) (hd : decode cc pc = .ok (.invokestatic idx, 3)) (k : fm_V w lay N l R cc nL own ret o (pc + 3) lv (.int (if x < y then y else x) :: st) σ) : fm_V w lay N l R cc nL own ret o pc lv (.int y :: .int x :: st) σ := by
  intro p e s m args below meth c X H locs ls hP hS h
  exact va_mmax X.1 X.2.1 (by rw [X.2.2.2.1, h.1]) X.2.2.2.2.1 (X.2.2.2.2.2.1 _ hw.1) (X.2.2.2.2.2.1 _ hw.2.1) (X.2.2.2.2.2.1 _ hw.2.2.1) (X.2.2.2.2.2.1 _ hw.2.2.2) hR.1 hR.2 (Nat.zero_le _) (Nat.zero_le _) hd (k p e s m args below meth c X H locs ls hP hS h)
end FMH
section FMC
variable {p : Program} {l : Launch} {e : Env} {R : Room} {s : State} {m : MethodId} {args : Array Value} {below : List Frame} {meth : Method} {c : Code} {H : Heap} {locs : List Loc} {cells slots : Nat} {Q : State → Prop}
theorem fm_Pc.blind {w : fm_W} {lay : Nat → fm_L} {N : Nat} {as : List Value} {σ : fm_M} : FrameBlind (fm_Pc w lay N as σ) := fun a U g mk h => ⟨h.1, h.2.1, h.2.2.calling⟩
theorem fm_call {w : fm_W} {lay : Nat → fm_L} {N : Nat} {o : fm_O} {pc : Nat} {ls : Array Slot} {rest st0 : List Value} {a : Array Value} {H0 : Heap} (hr : va_Run p l e R s m args below meth c H locs cells slots 0 0 (F0 m pc ls st0) rest (fm_Q w lay N o a) (fm_A w N)) (hS : va_S (fm_A w N) H0 H locs)
    (kk : ∀ (H1 : Heap) (locs1 : List Loc), fm_P w lay N o.2 H1 → va_S (fm_A w N) H0 H1 locs1 → W p l e R s m args below meth c H1 locs1 cells slots Q (F0 m (pc + 3) ls (o.1.toList ++ rest))) : W p l e R s m args below meth c H locs cells slots Q (F0 m pc ls st0) := by
  intro T hT X
  obtain ⟨v, st₀, t, T', L, h0, X', hL, e1, e2, ⟨hv, hp, hz, hk⟩, st⟩ := hr T hT X
  cases hv
  rw [h0] at hz hk
  obtain ⟨t2, a1, b1⟩ := kk T'.heap (locs ++ L) (by rw [e1]; exact hp)
    ⟨Nat.le_trans hS.1 (by rw [e1]; exact hz), fun q h1 h2 => by rw [e1, hk q (Nat.lt_of_lt_of_le h1 hS.1) h2]; exact hS.2.1 q h1 h2, fun q hq => by
      rcases List.mem_append.mp hq with h | h
      · exact hS.2.2 q h
      · exact hL q h⟩ T' rfl X'
  exact ⟨t2, st t2 a1, b1⟩
end FMC
/-- a call's words -/
def fm_lw (own : String) (idx : Nat) (y : MethodName) (cc : ByteArray) (nL : Nat) (ret : Option FieldType) (n : Nat) : Prop := Cond.code y cc nL ret ∈ gw ∧ Cond.initialized y.cls ∈ gw ∧ Cond.methodLink own idx y ∈ gw ∧ (y.cls ≠ "java/lang/invoke/MethodHandle" ∧ y.cls ≠ "java/lang/invoke/VarHandle" ∧ (parseMethodDescriptor y.desc).map (fun d => d.parameters.length) = some n)
def fm_lV (own : String) (idx : Nat) (y : MethodName) (cc : ByteArray) (nL : Nat) (ret : Option FieldType) (n ci : Nat) : Prop := fm_lw own idx y cc nL ret n ∧ Cond.instanceMethod y ∈ gw ∧ Cond.selects y.cls y y ∈ gw ∧ ∃ (T : u_T) (k : Nat), vwCl[ci]? = some (y.cls, T, k)
def fm_lS (own : String) (idx : Nat) (y : MethodName) (cc : ByteArray) (nL : Nat) (ret : Option FieldType) (n : Nat) : Prop := fm_lw own idx y cc nL ret n ∧ Cond.static y ∈ gw
section FMK
variable {w : fm_W} {lay : Nat → fm_L} {N : Nat} {l : Launch} {R : Room} {cc : ByteArray} {nL : Nat} {own : String} {ret : Option FieldType} {o : fm_O} {pc : Nat} {lv lv' : List (Option Value)} {st : List Value} {σ : fm_M}
theorem v_callV {idx : Nat} {y : MethodName} {c2 : ByteArray} {nL2 n ci b : Nat} {ret2 : Option FieldType} {rm : Room} {As rest : List Value} {tm : List (Option Nat)} {o2 : fm_O} (hL : fm_lV own idx y c2 nL2 ret2 n ci) (hC : fm_C w lay N l y c2 nL2 ret2 rm (.ref (fm_ad w b) :: As) σ o2) (hy : lay b = .inr (ci, tm)) (hb : b < N) (hn : As.length = n) (hst : st = As.reverse ++ .ref (fm_ad w b) :: rest) (hR : rm.cells = 0 ∧ rm.slots = 0 ∧ rm.frames + 1 ≤ R.frames ∧ 8 + (nL2 + 11) + rm.locals ≤ R.locals) (hW : (rest.map fun v => v.category).sum ≤ 8) (hd : decode cc pc = .ok (.invokevirtual idx, 3)) (k : fm_V w lay N l R cc nL own ret o (pc + 3) lv (o2.1.toList ++ rest) o2.2) : fm_V w lay N l R cc nL own ret o pc lv st σ := by
  intro p e s m args below meth c X H locs ls hP hS h
  obtain ⟨⟨w1, w2, w3, w4⟩, w5, w6, T, kn, w7⟩ := hL
  have hg := X.2.2.2.2.2.1
  have hCB : CallB R s args own idx y c2 nL2 ret2 (.code y c2 nL2 ret2 :: gw) rm 0 0 n := callB_of (Ts := gw) n hg (gw_good w1 (fun _ h => h)) rfl hR.1 hR.2.1 (hg _ w2) (hg _ w3) w4 hR.2.2
  have he : (fm_ws w lay N σ)[b]? = some (fm_ad w b, .inr (ci, fm_fl (fm_ad w) (σ b) 0 tm)) := by rw [fm_ws_get hb, fm_ce_obj hy]
  exact fm_call (va_runV (Ts := gw) (C := y.cls) (As := As) (rest := rest) ⟨X.1, X.2.1, X.2.2.2.1, X.2.2.2.2.1, hg⟩ hC ⟨hCB, hg _ w5, hg _ w6⟩ ⟨fm_Pc.blind, va_recv X.2.2.2.2.2.2.2.1.1 hP.1 w7 he, fun U hU hW => ⟨rfl, by rw [hU]; exact hP, X.2.2.2.2.2.2.2.1.on hS hU hW⟩⟩ rfl hn h.1 hst (lv_room hW) hd ⟨by rw [Nat.zero_add]; exact Nat.zero_le _, by rw [Nat.zero_add]; exact Nat.zero_le _⟩) hS (fun H1 locs1 hP1 hS1 => k p e s m args below meth c X H1 locs1 ls hP1 hS1 h)
theorem v_callS {idx : Nat} {y : MethodName} {c2 : ByteArray} {nL2 n : Nat} {ret2 : Option FieldType} {rm : Room} {As rest : List Value} {o2 : fm_O} (hL : fm_lS own idx y c2 nL2 ret2 n) (hC : fm_C w lay N l y c2 nL2 ret2 rm As σ o2) (hn : As.length = n) (hst : st = As.reverse ++ rest) (hR : rm.cells = 0 ∧ rm.slots = 0 ∧ rm.frames + 1 ≤ R.frames ∧ 8 + (nL2 + 11) + rm.locals ≤ R.locals) (hW : (rest.map fun v => v.category).sum ≤ 8) (hd : decode cc pc = .ok (.invokestatic idx, 3)) (k : fm_V w lay N l R cc nL own ret o (pc + 3) lv (o2.1.toList ++ rest) o2.2) : fm_V w lay N l R cc nL own ret o pc lv st σ := by
  intro p e s m args below meth c X H locs ls hP hS h
  obtain ⟨⟨w1, w2, w3, w4⟩, w5⟩ := hL
  have hg := X.2.2.2.2.2.1
  have hCB : CallB R s args own idx y c2 nL2 ret2 (.code y c2 nL2 ret2 :: gw) rm 0 0 n := callB_of (Ts := gw) n hg (gw_good w1 (fun _ h => h)) rfl hR.1 hR.2.1 (hg _ w2) (hg _ w3) w4 hR.2.2
  exact fm_call (va_runS (Ts := gw) (As := As) (rest := rest) ⟨X.1, X.2.1, X.2.2.2.1, X.2.2.2.2.1, hg⟩ hC ⟨hCB, hg _ w5⟩ ⟨fm_Pc.blind, fun U hU hW => ⟨rfl, by rw [hU]; exact hP, X.2.2.2.2.2.2.2.1.on hS hU hW⟩⟩ rfl hn h.1 hst (lv_room hW) hd ⟨by rw [Nat.zero_add]; exact Nat.zero_le _, by rw [Nat.zero_add]; exact Nat.zero_le _⟩) hS (fun H1 locs1 hP1 hS1 => k p e s m args below meth c X H1 locs1 ls hP1 hS1 h)
/-- a contract out of a walk -/
theorem fm_ofV {y : MethodName} {rm : Room} {as : List Value} (hI : fm_I w N) (hy : plainName y.cls = true) (hc : ∀ v ∈ as, v.category = 1) (hn : as.length ≤ nL) (hV : fm_V w lay N l rm cc nL y.cls ret o 0 (as.map some ++ List.replicate (nL - as.length) none) [] σ) : fm_C w lay N l y cc nL ret rm as σ o := by
  refine Met.ofW (cc := cc) (maxL := nL) (ret := ret) hy rfl ?_
  intro p e s m args below meth c s₁ B hml hv
  obtain ⟨rfl, hP, hK⟩ := hv
  have hts := atoms_spec (ws := .code y cc nL ret :: gw) B.pre
  have hsl : ∀ (vs : List Value), (∀ v ∈ vs, v.category = 1) → (lg_sl vs).length = vs.length := by
    intro vs
    induction vs with
    | nil => intro _; rfl
    | cons v t ih =>
      intro h
      have h1 := h v List.mem_cons_self
      simp only [lg_sl, List.flatMap_cons, List.length_append, List.length_cons] at ih ⊢
      rw [ih (fun u hu => h u (List.mem_cons_of_mem _ hu))]
      simp [h1]; omega
  have hla : ∀ (vs : List Value) (j : Nat), (∀ v ∈ vs, v.category = 1) → ∀ (i : Nat) (v : Value), vs[i]? = some v → (j + i, v) ∈ lv_args j vs := by
    intro vs
    induction vs with
    | nil => intro j _ i v h; simp at h
    | cons u t ih =>
      intro j h i v hi
      have h1 := h u List.mem_cons_self
      cases i with
      | zero => simp at hi; subst hi; simp [lv_args]
      | succ i =>
        simp at hi
        have h2 := ih (j + 1) (fun x hx => h x (List.mem_cons_of_mem _ hx)) i v hi
        simp only [lv_args, h1]
        rw [show j + (i + 1) = j + 1 + i by omega]
        exact List.mem_cons_of_mem _ (by simpa using h2)
  rw [lg_entry_eq]
  have hl := lv_entry as (n := nL) (by rw [hsl as hc]; exact hn)
  refine hV p e s m as.toArray below meth c ⟨B.exec, B.bytes, B.returns, hml, findClass_of_methodNamed B.named, fun x hx => hts x (List.mem_cons_of_mem _ hx), B.notSynchronized, hK, hI⟩ s.heap [] _ hP va_S.rf ⟨hl.1, hl.2.1, by simp; omega, fun i v hi => ?_⟩
  have hi' : as[i]? = some v := by
    by_cases hq : i < as.length
    · rw [List.getElem?_append_left (by simpa using hq), List.getElem?_map] at hi
      cases hx : as[i]? with
      | none => rw [hx] at hi; cases hi
      | some u => rw [hx] at hi; cases hi; rfl
    · rw [List.getElem?_append_right (by simpa using hq), List.getElem?_replicate] at hi
      split at hi <;> cases hi
  have := hl.2.2 _ (hla as 0 hc i v hi')
  simpa using this
end FMK
