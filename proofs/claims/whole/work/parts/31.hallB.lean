/-! the class's hall: acts -/
theorem z_lem1n {a : Nat} (h : a < 2147483648) : (nI a ≤ -nI 1) = False := by
  apply propext
  rw [Int32.le_iff_toInt_le, nI_toInt h, show (-nI 1).toInt = -1 by decide]
  exact ⟨fun _ => by omega, False.elim⟩
theorem begF_18 {σ : Nat → Nat} {w how k c : Nat} : begF σ w how k c (18 + w) = how := by unfold begF; rw [un_ne (by omega), un_ne (by omega), un_eq]
theorem begF_21 {σ : Nat → Nat} {w how k c : Nat} : begF σ w how k c (21 + w) = k := by unfold begF; rw [un_ne (by omega), un_eq]
theorem begF_24 {σ : Nat → Nat} {w how k c : Nat} : begF σ w how k c (24 + w) = c := by unfold begF; rw [un_eq]
theorem begF_o {σ : Nat → Nat} {w how k c j : Nat} (a : ¬ j = 18 + w) (b : ¬ j = 21 + w) (d : ¬ j = 24 + w) : begF σ w how k c j = σ j := by unfold begF; rw [un_ne d, un_ne b, un_ne a]
theorem drF_c {p σ : Nat → Nat} {w c : Nat} : drF p σ w c c = 1 := by unfold drF; rw [un_eq]
theorem drF_n {p σ : Nat → Nat} {w c j : Nat} (h : ¬ j = c) : drF p σ w c j = begF σ w 1 (minsOf p σ c) c j := by unfold drF; rw [un_ne h]
theorem X_canDress {p σ : Nat → Nat} {s : fm_M} {a : Nat} (hp : PI p) (hP : RP p s) (hR : RH p σ s a) (hH : HI p σ) (v1 v2 : Int32) : f_X2_canDress a v1 v2 s = some (bI ((fm_in v1 (p 1) && decide (σ (18 + v1.toNatClampNeg) = 0)) && (fm_in v2 (p 0) && decide (σ v2.toNatClampNeg = 0))), s) := by
  have h1 := X_isFree hp hR hH v1
  have h2 := X_isBare hp hP hR hH v2
  unfold f_X2_canDress f_X2_canDress_20 f_X2_canDress_21
  rw [bd_some h1]
  generalize (fm_in v1 (p 1) && decide (σ (18 + v1.toNatClampNeg) = 0)) = b1
  generalize (fm_in v2 (p 0) && decide (σ v2.toNatClampNeg = 0)) = b2 at h2 ⊢
  cases b1
  · rfl
  · rw [if_neg (by decide), bd_some h2]
    cases b2 <;> rfl
theorem X_dress {p σ : Nat → Nat} {s : fm_M} {a : Nat} (hp : PI p) (ha : 9 ≤ a) (hP : RP p s) (hR : RH p σ s a) (hH : HI p σ) {w c : Nat} (hw : w < p 1) (hf : σ (18 + w) = 0) (hc : c < p 0) (hb : σ c = 0) : ∃ s', f_X2_dress a (nI w) (nI c) s = some (nI (minsOf p σ c), s') ∧ RH p (drF p σ w c) s' a ∧ FH a s s' ∧ s' a 10 = s a 10 + 1 := by
  have hp0 := hp.2.2.1
  have hp1 := hp.2.2.2.2.1
  have hcd := X_canDress hp hP hR hH (nI w) (nI c)
  rw [z_clamp (by omega), z_clamp (by omega), show fm_in (nI w) (p 1) = true by rw [z_in (by omega)]; exact hw, show fm_in (nI c) (p 0) = true by rw [z_in (by omega)]; exact hc, decide_eq_true hf, decide_eq_true hb] at hcd
  obtain ⟨r1, r2, r3, r4, r5, r6⟩ := hR
  have hmt := X_minutesToDress (s := fm_up s (a + 4) w (nI 1)) (a := a) hp (hP.fh ha (FH.up s (a + 4) w (nI 1) (by omega) (by omega))) (by rw [m_up_ne (by omega)]; exact r6) hH hc
  refine ⟨fm_up (fm_up (fm_up (fm_up (fm_up s (a + 4) w (nI 1)) (a + 5) w (nI (minsOf p σ c))) (a + 6) w (nI c)) (a + 1) c (nI 1)) a 10 (s a 10 + nI 1), ?_, ?_, ?_, ?_⟩
  · unfold f_X2_dress
    simp (disch := omega) only [zl0, zl1, zl2, zl3, zl4, zl5, zl6, zl7, zl8, zl9, zl10, zl11, zl12, zl13, zl17, zl18, zl19, zl20, zl21, zl22, zl23, zl24, zl25, zl26, zl27, zl28, zl29, zl31, zl32, zl40, zl42, zl44, zl48, zl50, zl57, zl58, zl59, zl60, zl65, zl97, zl98, zl99, zl100, zl103, zl104, zl108, zl119, zl126, zl200, zl203, zl255, zl999, zl9999, zl720, zl232, z_add, z_le, z_lt, z_eq, z_clamp, z_in, z_m4, z_m4n, z_m1n, z_b0, z_b1, m_up_eq, m_up_ne, m_upd_eq, m_upd_ne, bd_s, op_s2, Bool.false_eq_true, eq_self, if_true, if_false, if_pos, if_neg, hcd, hmt, bI, Bool.and_self]
  · refine ⟨fun k hk => ?_, fun k h1 h2 => ?_, fun v hv => ?_, ?_, ?_, ?_⟩
    · obtain ⟨q1, q2, q3⟩ := r1 k hk
      rw [drF_n (show ¬ 12 + k = c by omega), begF_o (by omega) (by omega) (by omega), drF_n (show ¬ 6 + k = c by omega), begF_o (show ¬ 6 + k = 18 + w by omega) (by omega) (by omega)]
      simp (disch := omega) only [m_up_eq, m_up_ne]
      by_cases e : k = c
      · subst e
        rw [m_upd_eq, drF_c]
        exact ⟨rfl, fun q => by omega, q3⟩
      · rw [m_upd_ne e, drF_n e, begF_o (by omega) (by omega) (by omega)]
        exact ⟨q1, q2, q3⟩
    · simp (disch := omega) only [m_up_eq, m_up_ne]
      exact r2 k h1 h2
    · obtain ⟨q1, q2, q3⟩ := r3 v hv
      rw [drF_n (show ¬ 18 + v = c by omega), drF_n (show ¬ 21 + v = c by omega), drF_n (show ¬ 24 + v = c by omega)]
      simp (disch := omega) only [m_up_eq, m_up_ne]
      by_cases e : v = w
      · subst e
        rw [m_upd_eq, m_upd_eq, m_upd_eq, begF_18, begF_21, begF_24]
        exact ⟨rfl, rfl, fun _ => rfl⟩
      · rw [m_upd_ne e, m_upd_ne e, m_upd_ne e, begF_o (by omega) (by omega) (by omega), begF_o (by omega) (by omega) (by omega), begF_o (by omega) (by omega) (by omega)]
        exact ⟨q1, q2, q3⟩
    · simp (disch := omega) only [m_up_eq, m_up_ne, m_upd_ne]
      exact r4
    · rw [drF_n (show ¬ 28 = c by omega), begF_o (by omega) (by omega) (by omega)]
      simp (disch := omega) only [m_up_eq, m_up_ne, m_upd_ne]
      exact r5
    · rw [drF_n (show ¬ 27 = c by omega), begF_o (by omega) (by omega) (by omega)]
      simp (disch := omega) only [m_up_eq, m_up_ne, m_upd_ne]
      exact r6
  · exact ((((FH.up _ _ _ _ (by omega) (by omega)).tr (FH.up _ _ _ _ (by omega) (by omega))).tr (FH.up _ _ _ _ (by omega) (by omega))).tr (FH.up _ _ _ _ (by omega) (by omega))).tr (FH.up _ _ _ _ (by omega) (by omega))
  · rw [m_up_eq, m_upd_eq]; rfl
theorem X_dressNo {p σ : Nat → Nat} {s : fm_M} {a : Nat} (hp : PI p) (hP : RP p s) (hR : RH p σ s a) (hH : HI p σ) {v1 v2 : Int32} (h : ((fm_in v1 (p 1) && decide (σ (18 + v1.toNatClampNeg) = 0)) && (fm_in v2 (p 0) && decide (σ v2.toNatClampNeg = 0))) = false) : f_X2_dress a v1 v2 s = some (-2, s) := by
  have hcd := X_canDress hp hP hR hH v1 v2
  rw [h] at hcd
  unfold f_X2_dress
  rw [bd_some hcd]
  rfl
theorem X_canLay {p σ : Nat → Nat} {s : fm_M} {a : Nat} (hp : PI p) (hR : RH p σ s a) (hH : HI p σ) (v1 : Int32) : f_X2_canLayThings a v1 s = some (bI ((fm_in v1 (p 1) && decide (σ (18 + v1.toNatClampNeg) = 0)) && !decide (σ 27 = 1 ∨ 0 < hc σ 18 2 (p 1))), s) := by
  have hp1 := hp.2.2.2.2.1
  have h1 := X_isFree hp hR hH v1
  have h2 := X_countWomen hp hR hH 2 (by omega)
  have hl := hc_le σ 18 2 (p 1)
  have h9 := hR.2.2.2.2.2
  have d27 := hH.2.2.2.2.1
  unfold f_X2_canLayThings f_X2_canLayThings_27 f_X2_canLayThings_28
  rw [bd_some h1]
  generalize (fm_in v1 (p 1) && decide (σ (18 + v1.toNatClampNeg) = 0)) = b1
  cases b1
  · rfl
  · rw [if_neg (by decide), Bool.true_and]
    by_cases e1 : σ 27 = 1
    · rw [decide_eq_true (Or.inl e1)]
      simp (disch := omega) only [zl0, zl1, zl2, zl3, zl4, zl5, zl6, zl7, zl8, zl9, zl10, zl11, zl12, zl13, zl17, zl18, zl19, zl20, zl21, zl22, zl23, zl24, zl25, zl26, zl27, zl28, zl29, zl31, zl32, zl40, zl42, zl44, zl48, zl50, zl57, zl58, zl59, zl60, zl65, zl97, zl98, zl99, zl100, zl103, zl104, zl108, zl119, zl126, zl200, zl203, zl255, zl999, zl9999, zl720, zl232, z_add, z_le, z_lt, z_eq, z_clamp, z_in, z_m4, z_m4n, z_m1n, z_b0, z_b1, m_up_eq, m_up_ne, m_upd_eq, m_upd_ne, bd_s, op_s2, Bool.false_eq_true, eq_self, if_true, if_false, if_pos, if_neg, h9, bI, Bool.not_true]
    · by_cases e2 : 0 < hc σ 18 2 (p 1)
      · rw [decide_eq_true (Or.inr e2)]
        simp (disch := omega) only [zl0, zl1, zl2, zl3, zl4, zl5, zl6, zl7, zl8, zl9, zl10, zl11, zl12, zl13, zl17, zl18, zl19, zl20, zl21, zl22, zl23, zl24, zl25, zl26, zl27, zl28, zl29, zl31, zl32, zl40, zl42, zl44, zl48, zl50, zl57, zl58, zl59, zl60, zl65, zl97, zl98, zl99, zl100, zl103, zl104, zl108, zl119, zl126, zl200, zl203, zl255, zl999, zl9999, zl720, zl232, z_add, z_le, z_lt, z_eq, z_clamp, z_in, z_m4, z_m4n, z_m1n, z_b0, z_b1, m_up_eq, m_up_ne, m_upd_eq, m_upd_ne, bd_s, op_s2, Bool.false_eq_true, eq_self, if_true, if_false, if_pos, if_neg, h9, h2, bI, Bool.not_true]
      · rw [decide_eq_false (fun q => q.elim e1 e2)]
        simp (disch := omega) only [zl0, zl1, zl2, zl3, zl4, zl5, zl6, zl7, zl8, zl9, zl10, zl11, zl12, zl13, zl17, zl18, zl19, zl20, zl21, zl22, zl23, zl24, zl25, zl26, zl27, zl28, zl29, zl31, zl32, zl40, zl42, zl44, zl48, zl50, zl57, zl58, zl59, zl60, zl65, zl97, zl98, zl99, zl100, zl103, zl104, zl108, zl119, zl126, zl200, zl203, zl255, zl999, zl9999, zl720, zl232, z_add, z_le, z_lt, z_eq, z_clamp, z_in, z_m4, z_m4n, z_m1n, z_b0, z_b1, m_up_eq, m_up_ne, m_upd_eq, m_upd_ne, bd_s, op_s2, Bool.false_eq_true, eq_self, if_true, if_false, if_pos, if_neg, h9, h2, bI, Bool.not_false]
theorem RH_beg {p σ : Nat → Nat} {s s' : fm_M} {a w how k : Nat} (hR : RH p σ s a) (hh : ¬ how = 1) (h4 : s' (a + 4) = upd (s (a + 4)) w (nI how)) (h5 : ∀ v, v < p 1 → s' (a + 5) v = if v = w then nI k else s (a + 5) v) (h6 : s' (a + 6) = s (a + 6)) (h1 : s' (a + 1) = s (a + 1)) (h2 : s' (a + 2) = s (a + 2)) (h3 : s' (a + 3) = s (a + 3)) (h7 : ∀ j, j < 10 → s' a j = s a j) (hp : p 0 ≤ 6) (hp1 : p 1 ≤ 3) (hw : w < p 1) : RH p (begF σ w how k 0) s' a := by
  obtain ⟨r1, r2, r3, r4, r5, r6⟩ := hR
  refine ⟨fun c hc => ?_, fun c g1 g2 => ?_, fun v hv => ?_, ?_, ?_, ?_⟩
  · rw [h1, h2, h3, begF_o (by omega) (by omega) (by omega), begF_o (by omega) (by omega) (by omega), begF_o (by omega) (by omega) (by omega)]
    exact r1 c hc
  · rw [h3]; exact r2 c g1 g2
  · rw [h4, h5 v hv, h6]
    by_cases e : v = w
    · subst e
      rw [m_upd_eq, begF_18, begF_21, if_pos rfl]
      exact ⟨rfl, rfl, fun q => absurd q hh⟩
    · rw [m_upd_ne e, if_neg e, begF_o (by omega) (by omega) (by omega), begF_o (by omega) (by omega) (by omega), begF_o (by omega) (by omega) (by omega)]
      exact r3 v hv
  · rw [h7 7 (by omega)]; exact r4
  · rw [h7 8 (by omega), begF_o (by omega) (by omega) (by omega)]; exact r5
  · rw [h7 9 (by omega), begF_o (by omega) (by omega) (by omega)]; exact r6
theorem X_lay {p σ : Nat → Nat} {s : fm_M} {a : Nat} (hp : PI p) (ha : 9 ≤ a) (hR : RH p σ s a) (hH : HI p σ) {w : Nat} (hw : w < p 1) (hf : σ (18 + w) = 0) (hl : ¬ (σ 27 = 1 ∨ 0 < hc σ 18 2 (p 1))) : ∃ s', f_X2_layThings a (nI w) s = some (nI 3, s') ∧ RH p (begF σ w 2 3 0) s' a ∧ FH a s s' ∧ s' a 10 = s a 10 + 1 := by
  have hp0 := hp.2.2.1
  have hp1 := hp.2.2.2.2.1
  have hcl := X_canLay hp hR hH (nI w)
  rw [z_clamp (by omega), show fm_in (nI w) (p 1) = true by rw [z_in (by omega)]; exact hw, decide_eq_true hf, decide_eq_false hl] at hcl
  refine ⟨fm_up (fm_up (fm_up s (a + 4) w (nI 2)) (a + 5) w (nI 3)) a 10 (s a 10 + nI 1), ?_, ?_, ?_, ?_⟩
  · unfold f_X2_layThings
    simp (disch := omega) only [zl0, zl1, zl2, zl3, zl4, zl5, zl6, zl7, zl8, zl9, zl10, zl11, zl12, zl13, zl17, zl18, zl19, zl20, zl21, zl22, zl23, zl24, zl25, zl26, zl27, zl28, zl29, zl31, zl32, zl40, zl42, zl44, zl48, zl50, zl57, zl58, zl59, zl60, zl65, zl97, zl98, zl99, zl100, zl103, zl104, zl108, zl119, zl126, zl200, zl203, zl255, zl999, zl9999, zl720, zl232, z_add, z_le, z_lt, z_eq, z_clamp, z_in, z_m4, z_m4n, z_m1n, z_b0, z_b1, m_up_eq, m_up_ne, m_upd_eq, m_upd_ne, bd_s, op_s2, Bool.false_eq_true, eq_self, if_true, if_false, if_pos, if_neg, hcl, bI, Bool.and_self, Bool.not_false]
  · refine RH_beg hR (by omega) ?_ (fun v hv => ?_) ?_ ?_ ?_ ?_ (fun j hj => ?_) hp0 hp1 hw
    · simp (disch := omega) only [m_up_eq, m_up_ne]
    · simp (disch := omega) only [m_up_eq, m_up_ne]
      rfl
    · simp (disch := omega) only [m_up_eq, m_up_ne]
    · simp (disch := omega) only [m_up_eq, m_up_ne]
    · simp (disch := omega) only [m_up_eq, m_up_ne]
    · simp (disch := omega) only [m_up_eq, m_up_ne]
    · simp (disch := omega) only [m_up_eq, m_up_ne, m_upd_ne]
  · exact ((FH.up _ _ _ _ (by omega) (by omega)).tr (FH.up _ _ _ _ (by omega) (by omega))).tr (FH.up _ _ _ _ (by omega) (by omega))
  · rw [m_up_eq, m_upd_eq]; rfl
theorem X_canOpen {p σ : Nat → Nat} {s : fm_M} {a : Nat} (hp : PI p) (hP : RP p s) (hR : RH p σ s a) (hH : HI p σ) (v1 : Int32) : f_X2_canOpenDoor a v1 s = some (bI ((fm_in v1 (p 1) && decide (σ (18 + v1.toNatClampNeg) = 0)) && decide (0 < hc σ 0 2 (p 0))), s) := by
  have hp0 := hp.2.2.1
  have h1 := X_isFree hp hR hH v1
  have h2 := X_countChildren hp hP hR hH 2 (by omega)
  have hl := hc_le σ 0 2 (p 0)
  unfold f_X2_canOpenDoor f_X2_canOpenDoor_20 f_X2_canOpenDoor_21
  rw [bd_some h1]
  generalize (fm_in v1 (p 1) && decide (σ (18 + v1.toNatClampNeg) = 0)) = b1
  cases b1
  · rfl
  · rw [if_neg (by decide), Bool.true_and]
    by_cases e2 : 0 < hc σ 0 2 (p 0)
    · rw [decide_eq_true e2]
      simp (disch := omega) only [zl0, zl1, zl2, zl3, zl4, zl5, zl6, zl7, zl8, zl9, zl10, zl11, zl12, zl13, zl17, zl18, zl19, zl20, zl21, zl22, zl23, zl24, zl25, zl26, zl27, zl28, zl29, zl31, zl32, zl40, zl42, zl44, zl48, zl50, zl57, zl58, zl59, zl60, zl65, zl97, zl98, zl99, zl100, zl103, zl104, zl108, zl119, zl126, zl200, zl203, zl255, zl999, zl9999, zl720, zl232, z_add, z_le, z_lt, z_eq, z_clamp, z_in, z_m4, z_m4n, z_m1n, z_b0, z_b1, m_up_eq, m_up_ne, m_upd_eq, m_upd_ne, bd_s, op_s2, Bool.false_eq_true, eq_self, if_true, if_false, if_pos, if_neg, h2, bI]
    · rw [decide_eq_false e2]
      simp (disch := omega) only [zl0, zl1, zl2, zl3, zl4, zl5, zl6, zl7, zl8, zl9, zl10, zl11, zl12, zl13, zl17, zl18, zl19, zl20, zl21, zl22, zl23, zl24, zl25, zl26, zl27, zl28, zl29, zl31, zl32, zl40, zl42, zl44, zl48, zl50, zl57, zl58, zl59, zl60, zl65, zl97, zl98, zl99, zl100, zl103, zl104, zl108, zl119, zl126, zl200, zl203, zl255, zl999, zl9999, zl720, zl232, z_add, z_le, z_lt, z_eq, z_clamp, z_in, z_m4, z_m4n, z_m1n, z_b0, z_b1, m_up_eq, m_up_ne, m_upd_eq, m_upd_ne, bd_s, op_s2, Bool.false_eq_true, eq_self, if_true, if_false, if_pos, if_neg, h2, bI]
theorem X_hottest {p σ : Nat → Nat} {s : fm_M} {a : Nat} (hp : PI p) (hP : RP p s) (hR : RH p σ s a) (hH : HI p σ) : f_X2_hottest a s = some (enO σ (p 0), s) := by
  have hp0 := hp.2.2.1
  have h := hP.1
  obtain ⟨x, h1, h2⟩ := it_go (body := fun (yy : fm_M × Int32 × Int32 × Int32) => f_X2_hottest_7 a yy.1 yy.2.1 yy.2.2.1 yy.2.2.2) (fun k t => t = (s, enO σ k, (if hoF σ k = 0 then -nI 1 else nI (σ (6 + (hoF σ k - 1)))), nI k)) (fun x => ∃ q : Int32, x = (s, enO σ (p 0), q, nI (p 0))) (p 0) (s, -4, -1, 0) (by omega) rfl (by
    rintro k t hk rfl
    left
    obtain ⟨q1, q2, -⟩ := hR.1 k hk
    have d0 := hH.1 k (by omega)
    have d6 := hH.1 (6 + k) (by omega)
    have hl := (hoF_le σ k).1
    have d7 := hH.1 (6 + (hoF σ k - 1)) (by omega)
    refine ⟨_, ?_, rfl⟩
    dsimp only [f_X2_hottest_7, f_X2_hottest_53]
    by_cases e1 : σ k = 2
    · have q3 := q2 e1
      by_cases e2 : hoF σ k = 0
      · have e5 : hoF σ (k + 1) = k + 1 := by rw [hoF, if_pos ⟨e1, Or.inl e2⟩]
        have e4 : enO σ (k + 1) = nI k := by unfold enO; rw [e5, if_neg (by omega), Nat.add_sub_cancel]
        rw [e4, e5, if_pos e2, if_neg (show ¬ k + 1 = 0 by omega), Nat.add_sub_cancel]
        simp (disch := omega) only [zl0, zl1, zl2, zl3, zl4, zl5, zl6, zl7, zl8, zl9, zl10, zl11, zl12, zl13, zl17, zl18, zl19, zl20, zl21, zl22, zl23, zl24, zl25, zl26, zl27, zl28, zl29, zl31, zl32, zl40, zl42, zl44, zl48, zl50, zl57, zl58, zl59, zl60, zl65, zl97, zl98, zl99, zl100, zl103, zl104, zl108, zl119, zl126, zl200, zl203, zl255, zl999, zl9999, zl720, zl232, z_add, z_le, z_lt, z_eq, z_clamp, z_in, z_m4, z_m4n, z_m1n, z_b0, z_b1, m_up_eq, m_up_ne, m_upd_eq, m_upd_ne, bd_s, op_s2, Bool.false_eq_true, eq_self, if_true, if_false, if_pos, if_neg, z_lem1n, h, q1, q3]
      · by_cases e6 : σ (6 + (hoF σ k - 1)) < σ (6 + k)
        · have e5 : hoF σ (k + 1) = k + 1 := by rw [hoF, if_pos ⟨e1, Or.inr e6⟩]
          have e4 : enO σ (k + 1) = nI k := by unfold enO; rw [e5, if_neg (by omega), Nat.add_sub_cancel]
          rw [e4, e5, if_neg e2, if_neg (show ¬ k + 1 = 0 by omega), Nat.add_sub_cancel]
          simp (disch := omega) only [zl0, zl1, zl2, zl3, zl4, zl5, zl6, zl7, zl8, zl9, zl10, zl11, zl12, zl13, zl17, zl18, zl19, zl20, zl21, zl22, zl23, zl24, zl25, zl26, zl27, zl28, zl29, zl31, zl32, zl40, zl42, zl44, zl48, zl50, zl57, zl58, zl59, zl60, zl65, zl97, zl98, zl99, zl100, zl103, zl104, zl108, zl119, zl126, zl200, zl203, zl255, zl999, zl9999, zl720, zl232, z_add, z_le, z_lt, z_eq, z_clamp, z_in, z_m4, z_m4n, z_m1n, z_b0, z_b1, m_up_eq, m_up_ne, m_upd_eq, m_upd_ne, bd_s, op_s2, Bool.false_eq_true, eq_self, if_true, if_false, if_pos, if_neg, h, q1, q3]
        · have e5 : hoF σ (k + 1) = hoF σ k := by rw [hoF, if_neg (fun q => q.2.elim e2 e6)]
          have e4 : enO σ (k + 1) = enO σ k := by unfold enO; rw [e5]
          rw [e4, e5, if_neg e2]
          simp (disch := omega) only [zl0, zl1, zl2, zl3, zl4, zl5, zl6, zl7, zl8, zl9, zl10, zl11, zl12, zl13, zl17, zl18, zl19, zl20, zl21, zl22, zl23, zl24, zl25, zl26, zl27, zl28, zl29, zl31, zl32, zl40, zl42, zl44, zl48, zl50, zl57, zl58, zl59, zl60, zl65, zl97, zl98, zl99, zl100, zl103, zl104, zl108, zl119, zl126, zl200, zl203, zl255, zl999, zl9999, zl720, zl232, z_add, z_le, z_lt, z_eq, z_clamp, z_in, z_m4, z_m4n, z_m1n, z_b0, z_b1, m_up_eq, m_up_ne, m_upd_eq, m_upd_ne, bd_s, op_s2, Bool.false_eq_true, eq_self, if_true, if_false, if_pos, if_neg, h, q1, q3]
    · have e5 : hoF σ (k + 1) = hoF σ k := by rw [hoF, if_neg (fun q => e1 q.1)]
      have e4 : enO σ (k + 1) = enO σ k := by unfold enO; rw [e5]
      rw [e4, e5]
      simp (disch := omega) only [zl0, zl1, zl2, zl3, zl4, zl5, zl6, zl7, zl8, zl9, zl10, zl11, zl12, zl13, zl17, zl18, zl19, zl20, zl21, zl22, zl23, zl24, zl25, zl26, zl27, zl28, zl29, zl31, zl32, zl40, zl42, zl44, zl48, zl50, zl57, zl58, zl59, zl60, zl65, zl97, zl98, zl99, zl100, zl103, zl104, zl108, zl119, zl126, zl200, zl203, zl255, zl999, zl9999, zl720, zl232, z_add, z_le, z_lt, z_eq, z_clamp, z_in, z_m4, z_m4n, z_m1n, z_b0, z_b1, m_up_eq, m_up_ne, m_upd_eq, m_upd_ne, bd_s, op_s2, Bool.false_eq_true, eq_self, if_true, if_false, if_pos, if_neg, h, q1]) (by
    rintro t rfl
    refine ⟨(s, enO σ (p 0), (if hoF σ (p 0) = 0 then -nI 1 else nI (σ (6 + (hoF σ (p 0) - 1)))), nI (p 0)), ?_, _, rfl⟩
    dsimp only [f_X2_hottest_7]
    rw [h, if_pos (by rw [z_le (by omega) (by omega)]; omega)])
  obtain ⟨q, rfl⟩ := h2
  unfold f_X2_hottest
  rw [op_some h1]
  rfl
theorem hoF_cong {σ τ : Nat → Nat} (h : ∀ j, j < 12 → σ j = τ j) : ∀ n, n ≤ 6 → hoF σ n = hoF τ n
  | 0, _ => rfl
  | n + 1, hn => by
    have ih := hoF_cong h n (by omega)
    have hl := (hoF_le σ n).1
    unfold hoF
    rw [← ih, ← h n (by omega), ← h (6 + n) (by omega), ← h (6 + (hoF σ n - 1)) (by omega)]
theorem opo_beg {σ : Nat → Nat} {n w how k c : Nat} (hn : n ≤ 6) : opo (begF σ w how k c) n = begF (opo σ n) w how k c := by
  have e : hoF (begF σ w how k c) n = hoF σ n := hoF_cong (fun j hj => begF_o (by omega) (by omega) (by omega)) n hn
  have hl := (hoF_le σ n).1
  unfold opo
  rw [e]
  split
  · rfl
  · unfold begF
    rw [un_comm (a := 24 + w) (by omega), un_comm (a := 21 + w) (by omega), un_comm (a := 18 + w) (by omega), un_comm (a := 24 + w) (by omega), un_comm (a := 21 + w) (by omega), un_comm (a := 18 + w) (by omega)]
theorem opF_beg {σ : Nat → Nat} {n w how k c : Nat} (hn : n ≤ 6) : ∀ i, opF (begF σ w how k c) n i = begF (opF σ n i) w how k c
  | 0 => rfl
  | i + 1 => by rw [opF, opF_beg hn i, opo_beg hn]; rfl
theorem opb_beg {σ : Nat → Nat} {n w how k c : Nat} (hn : n ≤ 6) : ∀ i, opb (begF σ w how k c) n i = opb σ n i
  | 0 => rfl
  | i + 1 => by
    have e : hoF (opF (begF σ w how k c) n i) n = hoF (opF σ n i) n := by
      rw [opF_beg hn i]
      exact hoF_cong (fun j hj => begF_o (by omega) (by omega) (by omega)) n hn
    rw [opb, opb, e, opb_beg hn i]
theorem RH_out {p σ : Nat → Nat} {s : fm_M} {a c : Nat} (hp0 : p 0 ≤ 6) (hR : RH p σ s a) (hc : c < p 0) : RH p (un (un σ c 3) (6 + c) 0) (fm_up s (a + 1) c (nI 3)) a := by
  obtain ⟨r1, r2, r3, r4, r5, r6⟩ := hR
  refine ⟨fun k hk => ?_, fun k h1 h2 => ?_, fun v hv => ?_, ?_, ?_, ?_⟩
  · obtain ⟨q1, q2, q3⟩ := r1 k hk
    rw [un_ne (show ¬ 12 + k = 6 + c by omega), un_ne (show ¬ 12 + k = c by omega), un_ne (show ¬ k = 6 + c by omega)]
    simp (disch := omega) only [m_up_eq, m_up_ne]
    by_cases e : k = c
    · subst e
      rw [m_upd_eq, un_eq]
      exact ⟨rfl, fun q => by omega, q3⟩
    · rw [m_upd_ne e, un_ne e, un_ne (show ¬ 6 + k = 6 + c by omega), un_ne (show ¬ 6 + k = c by omega)]
      exact ⟨q1, q2, q3⟩
  · rw [m_up_ne (by omega)]; exact r2 k h1 h2
  · simp (disch := omega) only [m_up_ne, un_ne]
    exact r3 v hv
  · rw [m_up_ne (by omega)]; exact r4
  · rw [m_up_ne (by omega), un_ne (by omega), un_ne (by omega)]; exact r5
  · rw [m_up_ne (by omega), un_ne (by omega), un_ne (by omega)]; exact r6
theorem X_openDoor {p σ : Nat → Nat} {s : fm_M} {a : Nat} (hp : PI p) (ha : 9 ≤ a) (hP : RP p s) (hR : RH p σ s a) (hH : HI p σ) {w : Nat} (hw : w < p 1) (hf : σ (18 + w) = 0) (hr : 0 < hc σ 0 2 (p 0)) : ∃ s', f_X2_openDoor a (nI w) s = some (opnB p σ, s') ∧ RH p (opnF p σ w) s' a ∧ FH a s s' ∧ s' a 10 = s a 10 + 1 := by
  have hp0 := hp.2.2.1
  have hp1 := hp.2.2.2.2.1
  have hp3 := hp.2.2.2.2.2.2.2.2.1
  have hco := X_canOpen hp hP hR hH (nI w)
  rw [z_clamp (by omega), show fm_in (nI w) (p 1) = true by rw [z_in (by omega)]; exact hw, decide_eq_true hf, decide_eq_true hr] at hco
  have how := X_oneWomanLeft hp hR hH
  have h21 : σ (21 + w) = 0 := (hH.2.2.1 w hw).2.1 (Or.inl hf)
  have hH1 : HI p (begF σ w 3 0 0) := HI_beg hp hH hw (by omega) (by omega) (by omega) (fun _ => rfl) (by omega)
  have key : ∀ many : Nat, many < 10 → ∃ s', f_X2_openDoor_30 a (nI w) (nI many) s = some (opb σ (p 0) many, s') ∧ RH p (begF (opF σ (p 0) many) w 3 0 0) s' a ∧ FH a s s' ∧ s' a 10 = s a 10 + 1 := by
    intro many hm
    obtain ⟨s0, hs0⟩ : ∃ s0, s0 = fm_up (fm_up s (a + 4) w (nI 3)) a 10 (s a 10 + nI 1) := ⟨_, rfl⟩
    have hF0 : FH a s s0 := by rw [hs0]; exact (FH.up _ _ _ _ (by omega) (by omega)).tr (FH.up _ _ _ _ (by omega) (by omega))
    have hR0 : RH p (begF σ w 3 0 0) s0 a := by
      rw [hs0]
      refine RH_beg hR (by omega) ?_ (fun v hv => ?_) ?_ ?_ ?_ ?_ (fun j hj => ?_) hp0 hp1 hw
      · simp (disch := omega) only [m_up_eq, m_up_ne]
      · simp (disch := omega) only [m_up_eq, m_up_ne]
        by_cases e : v = w
        · subst e
          rw [if_pos rfl, (hR.2.2.1 v hv).2.1, h21]
        · rw [if_neg e]
      · simp (disch := omega) only [m_up_eq, m_up_ne]
      · simp (disch := omega) only [m_up_eq, m_up_ne]
      · simp (disch := omega) only [m_up_eq, m_up_ne]
      · simp (disch := omega) only [m_up_eq, m_up_ne]
      · simp (disch := omega) only [m_up_eq, m_up_ne, m_upd_ne]
    have h10 : s0 a 10 = s a 10 + 1 := by rw [hs0, m_up_eq, m_upd_eq]; rfl
    obtain ⟨x, h1, s', h2, h3, h4, h5⟩ := it_go (body := fun (yy : fm_M × Int32 × Int32) => f_X2_openDoor_53 a (nI many) yy.1 yy.2.1 yy.2.2) (fun k t => ∃ s', t = (s', opb (begF σ w 3 0 0) (p 0) k, nI k) ∧ RH p (opF (begF σ w 3 0 0) (p 0) k) s' a ∧ FH a s s' ∧ s' a 10 = s a 10 + 1) (fun x => ∃ s', x = (s', opb (begF σ w 3 0 0) (p 0) many, nI many) ∧ RH p (opF (begF σ w 3 0 0) (p 0) many) s' a ∧ FH a s s' ∧ s' a 10 = s a 10 + 1) many (s0, 0, 0) (by omega) ⟨s0, rfl, hR0, hF0, h10⟩ (by
      rintro k t hk ⟨s', rfl, hR', hF, h10'⟩
      left
      have hP' := hP.fh ha hF
      have hH' := HI_opF hp hH1 k
      have hh := X_hottest hp hP' hR' hH'
      have hl := hoF_le (opF (begF σ w 3 0 0) (p 0) k) (p 0)
      by_cases e : hoF (opF (begF σ w 3 0 0) (p 0) k) (p 0) = 0
      · refine ⟨(s', opb (begF σ w 3 0 0) (p 0) (k + 1), nI (k + 1)), ?_, s', rfl, by rw [opF, opo, if_pos e]; exact hR', hF, h10'⟩
        unfold enO at hh
        rw [if_pos e] at hh
        have hcc := X_hasChild hp hP'.1 (-4)
        rw [show fm_in (-4) (p 0) = false by rw [← Bool.not_eq_true, z_neg_in (by decide)]; exact fun q => q] at hcc
        have hcc2 : f_X4_hasChild 6 (-nI 4) s' = some (bI false, s') := hcc
        dsimp only [f_X2_openDoor_53, f_X2_openDoor_92]
        rw [opb, if_pos e]
        simp (disch := omega) only [zl0, zl1, zl2, zl3, zl4, zl5, zl6, zl7, zl8, zl9, zl10, zl11, zl12, zl13, zl17, zl18, zl19, zl20, zl21, zl22, zl23, zl24, zl25, zl26, zl27, zl28, zl29, zl31, zl32, zl40, zl42, zl44, zl48, zl50, zl57, zl58, zl59, zl60, zl65, zl97, zl98, zl99, zl100, zl103, zl104, zl108, zl119, zl126, zl200, zl203, zl255, zl999, zl9999, zl720, zl232, z_add, z_le, z_lt, z_eq, z_clamp, z_in, z_m4, z_m4n, z_m1n, z_b0, z_b1, m_up_eq, m_up_ne, m_upd_eq, m_upd_ne, bd_s, op_s2, Bool.false_eq_true, eq_self, if_true, if_false, if_pos, if_neg, hh, hcc2, bI]
      · obtain ⟨c, hcd⟩ : ∃ c, c = hoF (opF (begF σ w 3 0 0) (p 0) k) (p 0) - 1 := ⟨_, rfl⟩
        have hcn : c < p 0 := by omega
        refine ⟨(fm_up s' (a + 1) c (nI 3), opb (begF σ w 3 0 0) (p 0) (k + 1), nI (k + 1)), ?_, _, rfl, by rw [opF, opo, if_neg e, ← hcd]; exact RH_out hp0 hR' hcn, hF.tr (FH.up _ _ _ _ (by omega) (by omega)), by rw [m_up_ne (by omega)]; exact h10'⟩
        unfold enO at hh
        rw [if_neg e, ← hcd] at hh
        have hcc := X_hasChild hp hP'.1 (nI c)
        rw [show fm_in (nI c) (p 0) = true by rw [z_in (by omega)]; exact hcn] at hcc
        dsimp only [f_X2_openDoor_53, f_X2_openDoor_92]
        rw [opb, if_neg e, ← hcd]
        simp (disch := omega) only [zl0, zl1, zl2, zl3, zl4, zl5, zl6, zl7, zl8, zl9, zl10, zl11, zl12, zl13, zl17, zl18, zl19, zl20, zl21, zl22, zl23, zl24, zl25, zl26, zl27, zl28, zl29, zl31, zl32, zl40, zl42, zl44, zl48, zl50, zl57, zl58, zl59, zl60, zl65, zl97, zl98, zl99, zl100, zl103, zl104, zl108, zl119, zl126, zl200, zl203, zl255, zl999, zl9999, zl720, zl232, z_add, z_le, z_lt, z_eq, z_clamp, z_in, z_m4, z_m4n, z_m1n, z_b0, z_b1, m_up_eq, m_up_ne, m_upd_eq, m_upd_ne, bd_s, op_s2, Bool.false_eq_true, eq_self, if_true, if_false, if_pos, if_neg, hh, hcc, bI]) (by
      rintro t ⟨s', rfl, hR', hF, h10'⟩
      refine ⟨_, ?_, s', rfl, hR', hF, h10'⟩
      dsimp only [f_X2_openDoor_53]
      simp (disch := omega) only [zl0, zl1, zl2, zl3, zl4, zl5, zl6, zl7, zl8, zl9, zl10, zl11, zl12, zl13, zl17, zl18, zl19, zl20, zl21, zl22, zl23, zl24, zl25, zl26, zl27, zl28, zl29, zl31, zl32, zl40, zl42, zl44, zl48, zl50, zl57, zl58, zl59, zl60, zl65, zl97, zl98, zl99, zl100, zl103, zl104, zl108, zl119, zl126, zl200, zl203, zl255, zl999, zl9999, zl720, zl232, z_add, z_le, z_lt, z_eq, z_clamp, z_in, z_m4, z_m4n, z_m1n, z_b0, z_b1, m_up_eq, m_up_ne, m_upd_eq, m_upd_ne, bd_s, op_s2, Bool.false_eq_true, eq_self, if_true, if_false, if_pos, if_neg])
    rw [opF_beg hp0] at h3
    refine ⟨s', ?_, h3, h4, h5⟩
    unfold f_X2_openDoor_30
    rw [show (3 : Int32) = nI 3 from rfl, z_clamp (by omega), if_pos (by rw [z_in (by omega)]; omega)]
    have e0 : fm_up (fm_up s (a + 4) w (nI 3)) a 10 (fm_up s (a + 4) w (nI 3) a 10 + 1) = s0 := by rw [hs0, m_up_ne (by omega)]; rfl
    rw [e0, op_some h1, h2, opb_beg hp0]
  unfold f_X2_openDoor opnF opnB opM
  rw [bd_some hco, if_neg (by decide), bd_some how]
  by_cases e : p 1 - hc σ 18 3 (p 1) = 1
  · rw [decide_eq_true e, if_neg (by decide), if_pos e]
    exact key 6 (by omega)
  · rw [decide_eq_false e, if_pos (by decide), if_neg e, hP.2.2.1]
    exact key (p 3) (by omega)
