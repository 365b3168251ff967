/-! the class's hall at cell a, held against the row σ -/
def RP (p : Nat → Nat) (s : fm_M) : Prop := s 6 2 = nI (p 0) ∧ s 6 4 = nI (p 2) ∧ s 6 5 = nI (p 3) ∧ s 6 6 = nI (p 4) ∧ ∀ c, c < p 0 → s 7 c = nI (p (5 + c)) ∧ s 8 c = nI (p (11 + c))
def RH (p σ : Nat → Nat) (s : fm_M) (a : Nat) : Prop :=
  (∀ c, c < p 0 → s (a + 1) c = nI (σ c) ∧ (σ c = 2 → s (a + 2) c = nI (σ (6 + c))) ∧ s (a + 3) c = nI (σ (12 + c))) ∧
  (∀ c, p 0 ≤ c → c < 6 → s (a + 3) c = nI 0) ∧
  (∀ w, w < p 1 → s (a + 4) w = nI (σ (18 + w)) ∧ s (a + 5) w = nI (σ (21 + w)) ∧ (σ (18 + w) = 1 → s (a + 6) w = nI (σ (24 + w)))) ∧
  s a 7 = nI (p 1) ∧ s a 8 = nI (σ 28) ∧ s a 9 = nI (σ 27)
def FH (a : Nat) (s s' : fm_M) : Prop := ∀ c, c < a ∨ a + 6 < c → s' c = s c
theorem FH.rf (a : Nat) (s : fm_M) : FH a s s := fun _ _ => rfl
theorem FH.tr {a : Nat} {x y z : fm_M} (h1 : FH a x y) (h2 : FH a y z) : FH a x z := fun k hk => (h2 k hk).trans (h1 k hk)
theorem FH.up {a : Nat} (s : fm_M) (c k : Nat) (v : Int32) (h1 : a ≤ c) (h2 : c ≤ a + 6) : FH a s (fm_up s c k v) := fun _ hc => m_up_ne (by omega)
theorem RP.fh {p : Nat → Nat} {s s' : fm_M} {a : Nat} (h : RP p s) (ha : 9 ≤ a) (hF : FH a s s') : RP p s' := by
  obtain ⟨h1, h2, h3, h4, h5⟩ := h
  rw [← hF 6 (by omega)] at h1 h2 h3 h4
  refine ⟨h1, h2, h3, h4, fun c hc => ?_⟩
  rw [hF 7 (by omega), hF 8 (by omega)]
  exact h5 c hc
theorem X_hasChild {p : Nat → Nat} {s : fm_M} (hp : PI p) (h : s 6 2 = nI (p 0)) (v : Int32) : f_X4_hasChild 6 v s = some (bI (fm_in v (p 0)), s) := by
  have hp0 := hp.2.2.1
  unfold f_X4_hasChild f_X4_hasChild_22 f_X4_hasChild_23
  rcases z_cases v with ⟨h1, h2⟩ | ⟨k, hk, rfl⟩
  · have e : fm_in v (p 0) = false := by rw [← Bool.not_eq_true, z_neg_in h1]; exact fun q => q
    rw [e, if_pos h2]
    rfl
  · by_cases e : k < p 0
    · have e1 : fm_in (nI k) (p 0) = true := by rw [z_in hk]; exact e
      rw [e1]
      simp (disch := omega) only [zl0, zl1, zl2, zl3, zl4, zl5, zl6, zl7, zl8, zl9, zl10, zl11, zl12, zl13, zl17, zl18, zl19, zl20, zl21, zl22, zl23, zl24, zl25, zl26, zl27, zl28, zl29, zl31, zl32, zl40, zl42, zl44, zl48, zl50, zl57, zl58, zl59, zl60, zl65, zl97, zl98, zl99, zl100, zl103, zl104, zl108, zl119, zl126, zl200, zl203, zl255, zl999, zl9999, zl720, zl232, z_add, z_le, z_lt, z_eq, z_clamp, z_in, z_m4, z_m4n, z_m1n, z_b0, z_b1, m_up_eq, m_up_ne, m_upd_eq, m_upd_ne, bd_s, op_s2, Bool.false_eq_true, eq_self, if_true, if_false, if_pos, if_neg, h, bI]
    · have e1 : fm_in (nI k) (p 0) = false := by rw [← Bool.not_eq_true, z_in hk]; exact e
      rw [e1]
      simp (disch := omega) only [zl0, zl1, zl2, zl3, zl4, zl5, zl6, zl7, zl8, zl9, zl10, zl11, zl12, zl13, zl17, zl18, zl19, zl20, zl21, zl22, zl23, zl24, zl25, zl26, zl27, zl28, zl29, zl31, zl32, zl40, zl42, zl44, zl48, zl50, zl57, zl58, zl59, zl60, zl65, zl97, zl98, zl99, zl100, zl103, zl104, zl108, zl119, zl126, zl200, zl203, zl255, zl999, zl9999, zl720, zl232, z_add, z_le, z_lt, z_eq, z_clamp, z_in, z_m4, z_m4n, z_m1n, z_b0, z_b1, m_up_eq, m_up_ne, m_upd_eq, m_upd_ne, bd_s, op_s2, Bool.false_eq_true, eq_self, if_true, if_false, if_pos, if_neg, h, bI]
theorem X_hasWoman {p σ : Nat → Nat} {s : fm_M} {a : Nat} (hp : PI p) (hR : RH p σ s a) (v : Int32) : f_X2_hasWoman a v s = some (bI (fm_in v (p 1)), s) := by
  have hp1 := hp.2.2.2.2.1
  have h := hR.2.2.2.1
  unfold f_X2_hasWoman f_X2_hasWoman_21 f_X2_hasWoman_22
  rcases z_cases v with ⟨h1, h2⟩ | ⟨k, hk, rfl⟩
  · have e : fm_in v (p 1) = false := by rw [← Bool.not_eq_true, z_neg_in h1]; exact fun q => q
    rw [e, if_pos h2]
    rfl
  · by_cases e : k < p 1
    · have e1 : fm_in (nI k) (p 1) = true := by rw [z_in hk]; exact e
      rw [e1]
      simp (disch := omega) only [zl0, zl1, zl2, zl3, zl4, zl5, zl6, zl7, zl8, zl9, zl10, zl11, zl12, zl13, zl17, zl18, zl19, zl20, zl21, zl22, zl23, zl24, zl25, zl26, zl27, zl28, zl29, zl31, zl32, zl40, zl42, zl44, zl48, zl50, zl57, zl58, zl59, zl60, zl65, zl97, zl98, zl99, zl100, zl103, zl104, zl108, zl119, zl126, zl200, zl203, zl255, zl999, zl9999, zl720, zl232, z_add, z_le, z_lt, z_eq, z_clamp, z_in, z_m4, z_m4n, z_m1n, z_b0, z_b1, m_up_eq, m_up_ne, m_upd_eq, m_upd_ne, bd_s, op_s2, Bool.false_eq_true, eq_self, if_true, if_false, if_pos, if_neg, h, bI]
    · have e1 : fm_in (nI k) (p 1) = false := by rw [← Bool.not_eq_true, z_in hk]; exact e
      rw [e1]
      simp (disch := omega) only [zl0, zl1, zl2, zl3, zl4, zl5, zl6, zl7, zl8, zl9, zl10, zl11, zl12, zl13, zl17, zl18, zl19, zl20, zl21, zl22, zl23, zl24, zl25, zl26, zl27, zl28, zl29, zl31, zl32, zl40, zl42, zl44, zl48, zl50, zl57, zl58, zl59, zl60, zl65, zl97, zl98, zl99, zl100, zl103, zl104, zl108, zl119, zl126, zl200, zl203, zl255, zl999, zl9999, zl720, zl232, z_add, z_le, z_lt, z_eq, z_clamp, z_in, z_m4, z_m4n, z_m1n, z_b0, z_b1, m_up_eq, m_up_ne, m_upd_eq, m_upd_ne, bd_s, op_s2, Bool.false_eq_true, eq_self, if_true, if_false, if_pos, if_neg, h, bI]
theorem X_isFree {p σ : Nat → Nat} {s : fm_M} {a : Nat} (hp : PI p) (hR : RH p σ s a) (hH : HI p σ) (v : Int32) : f_X2_isFree a v s = some (bI (fm_in v (p 1) && decide (σ (18 + v.toNatClampNeg) = 0)), s) := by
  have hp1 := hp.2.2.2.2.1
  have h := hR.2.2.2.1
  unfold f_X2_isFree f_X2_isFree_30 f_X2_isFree_31
  rcases z_cases v with ⟨h1, h2⟩ | ⟨k, hk, rfl⟩
  · have e : fm_in v (p 1) = false := by rw [← Bool.not_eq_true, z_neg_in h1]; exact fun q => q
    rw [e, if_pos h2]
    rfl
  · rw [z_clamp hk]
    by_cases e : k < p 1
    · have e1 : fm_in (nI k) (p 1) = true := by rw [z_in hk]; exact e
      have h4 := (hR.2.2.1 k e).1
      have d := hH.1 (18 + k) (by omega)
      by_cases e2 : σ (18 + k) = 0
      · rw [e1, decide_eq_true e2]
        simp (disch := omega) only [zl0, zl1, zl2, zl3, zl4, zl5, zl6, zl7, zl8, zl9, zl10, zl11, zl12, zl13, zl17, zl18, zl19, zl20, zl21, zl22, zl23, zl24, zl25, zl26, zl27, zl28, zl29, zl31, zl32, zl40, zl42, zl44, zl48, zl50, zl57, zl58, zl59, zl60, zl65, zl97, zl98, zl99, zl100, zl103, zl104, zl108, zl119, zl126, zl200, zl203, zl255, zl999, zl9999, zl720, zl232, z_add, z_le, z_lt, z_eq, z_clamp, z_in, z_m4, z_m4n, z_m1n, z_b0, z_b1, m_up_eq, m_up_ne, m_upd_eq, m_upd_ne, bd_s, op_s2, Bool.false_eq_true, eq_self, if_true, if_false, if_pos, if_neg, h, h4, bI, Bool.and_self]
      · rw [e1, decide_eq_false e2]
        simp (disch := omega) only [zl0, zl1, zl2, zl3, zl4, zl5, zl6, zl7, zl8, zl9, zl10, zl11, zl12, zl13, zl17, zl18, zl19, zl20, zl21, zl22, zl23, zl24, zl25, zl26, zl27, zl28, zl29, zl31, zl32, zl40, zl42, zl44, zl48, zl50, zl57, zl58, zl59, zl60, zl65, zl97, zl98, zl99, zl100, zl103, zl104, zl108, zl119, zl126, zl200, zl203, zl255, zl999, zl9999, zl720, zl232, z_add, z_le, z_lt, z_eq, z_clamp, z_in, z_m4, z_m4n, z_m1n, z_b0, z_b1, m_up_eq, m_up_ne, m_upd_eq, m_upd_ne, bd_s, op_s2, Bool.false_eq_true, eq_self, if_true, if_false, if_pos, if_neg, h, h4, bI, Bool.and_false]
    · have e1 : fm_in (nI k) (p 1) = false := by rw [← Bool.not_eq_true, z_in hk]; exact e
      rw [e1]
      simp (disch := omega) only [zl0, zl1, zl2, zl3, zl4, zl5, zl6, zl7, zl8, zl9, zl10, zl11, zl12, zl13, zl17, zl18, zl19, zl20, zl21, zl22, zl23, zl24, zl25, zl26, zl27, zl28, zl29, zl31, zl32, zl40, zl42, zl44, zl48, zl50, zl57, zl58, zl59, zl60, zl65, zl97, zl98, zl99, zl100, zl103, zl104, zl108, zl119, zl126, zl200, zl203, zl255, zl999, zl9999, zl720, zl232, z_add, z_le, z_lt, z_eq, z_clamp, z_in, z_m4, z_m4n, z_m1n, z_b0, z_b1, m_up_eq, m_up_ne, m_upd_eq, m_upd_ne, bd_s, op_s2, Bool.false_eq_true, eq_self, if_true, if_false, if_pos, if_neg, h, bI, Bool.false_and]
theorem X_isBare {p σ : Nat → Nat} {s : fm_M} {a : Nat} (hp : PI p) (hP : RP p s) (hR : RH p σ s a) (hH : HI p σ) (v : Int32) : f_X2_isBare a v s = some (bI (fm_in v (p 0) && decide (σ v.toNatClampNeg = 0)), s) := by
  have hp0 := hp.2.2.1
  have h := hP.1
  unfold f_X2_isBare f_X2_isBare_34 f_X2_isBare_35
  rcases z_cases v with ⟨h1, h2⟩ | ⟨k, hk, rfl⟩
  · have e : fm_in v (p 0) = false := by rw [← Bool.not_eq_true, z_neg_in h1]; exact fun q => q
    rw [e, if_pos h2]
    rfl
  · rw [z_clamp hk]
    by_cases e : k < p 0
    · have e1 : fm_in (nI k) (p 0) = true := by rw [z_in hk]; exact e
      have h4 := (hR.1 k e).1
      have d := hH.1 k (by omega)
      by_cases e2 : σ k = 0
      · rw [e1, decide_eq_true e2]
        simp (disch := omega) only [zl0, zl1, zl2, zl3, zl4, zl5, zl6, zl7, zl8, zl9, zl10, zl11, zl12, zl13, zl17, zl18, zl19, zl20, zl21, zl22, zl23, zl24, zl25, zl26, zl27, zl28, zl29, zl31, zl32, zl40, zl42, zl44, zl48, zl50, zl57, zl58, zl59, zl60, zl65, zl97, zl98, zl99, zl100, zl103, zl104, zl108, zl119, zl126, zl200, zl203, zl255, zl999, zl9999, zl720, zl232, z_add, z_le, z_lt, z_eq, z_clamp, z_in, z_m4, z_m4n, z_m1n, z_b0, z_b1, m_up_eq, m_up_ne, m_upd_eq, m_upd_ne, bd_s, op_s2, Bool.false_eq_true, eq_self, if_true, if_false, if_pos, if_neg, h, h4, bI, Bool.and_self]
      · rw [e1, decide_eq_false e2]
        simp (disch := omega) only [zl0, zl1, zl2, zl3, zl4, zl5, zl6, zl7, zl8, zl9, zl10, zl11, zl12, zl13, zl17, zl18, zl19, zl20, zl21, zl22, zl23, zl24, zl25, zl26, zl27, zl28, zl29, zl31, zl32, zl40, zl42, zl44, zl48, zl50, zl57, zl58, zl59, zl60, zl65, zl97, zl98, zl99, zl100, zl103, zl104, zl108, zl119, zl126, zl200, zl203, zl255, zl999, zl9999, zl720, zl232, z_add, z_le, z_lt, z_eq, z_clamp, z_in, z_m4, z_m4n, z_m1n, z_b0, z_b1, m_up_eq, m_up_ne, m_upd_eq, m_upd_ne, bd_s, op_s2, Bool.false_eq_true, eq_self, if_true, if_false, if_pos, if_neg, h, h4, bI, Bool.and_false]
    · have e1 : fm_in (nI k) (p 0) = false := by rw [← Bool.not_eq_true, z_in hk]; exact e
      rw [e1]
      simp (disch := omega) only [zl0, zl1, zl2, zl3, zl4, zl5, zl6, zl7, zl8, zl9, zl10, zl11, zl12, zl13, zl17, zl18, zl19, zl20, zl21, zl22, zl23, zl24, zl25, zl26, zl27, zl28, zl29, zl31, zl32, zl40, zl42, zl44, zl48, zl50, zl57, zl58, zl59, zl60, zl65, zl97, zl98, zl99, zl100, zl103, zl104, zl108, zl119, zl126, zl200, zl203, zl255, zl999, zl9999, zl720, zl232, z_add, z_le, z_lt, z_eq, z_clamp, z_in, z_m4, z_m4n, z_m1n, z_b0, z_b1, m_up_eq, m_up_ne, m_upd_eq, m_upd_ne, bd_s, op_s2, Bool.false_eq_true, eq_self, if_true, if_false, if_pos, if_neg, h, bI, Bool.false_and]
theorem X_countChildren {p σ : Nat → Nat} {s : fm_M} {a : Nat} (hp : PI p) (hP : RP p s) (hR : RH p σ s a) (hH : HI p σ) (how : Nat) (hw : how < 1000) : f_X2_countChildren a (nI how) s = some (nI (hc σ 0 how (p 0)), s) := by
  have hp0 := hp.2.2.1
  have h := hP.1
  obtain ⟨x, h1, h2⟩ := it_go (body := fun (yy : fm_M × Int32 × Int32) => f_X2_countChildren_4 a (nI how) yy.1 yy.2.1 yy.2.2) (fun k t => t = (s, nI (hc σ 0 how k), nI k)) (fun x => x = (s, nI (hc σ 0 how (p 0)), nI (p 0))) (p 0) (s, 0, 0) (by omega) rfl (by
    rintro k t hk rfl
    left
    have hle := hc_le σ 0 how k
    have hs := (hR.1 k hk).1
    have hb1 := hH.1 k (by omega)
    have ez : 0 + k = k := Nat.zero_add k
    refine ⟨_, ?_, rfl⟩
    dsimp only [f_X2_countChildren_4, f_X2_countChildren_34]
    by_cases e : σ k = how
    · simp (disch := omega) only [zl0, zl1, zl2, zl3, zl4, zl5, zl6, zl7, zl8, zl9, zl10, zl11, zl12, zl13, zl17, zl18, zl19, zl20, zl21, zl22, zl23, zl24, zl25, zl26, zl27, zl28, zl29, zl31, zl32, zl40, zl42, zl44, zl48, zl50, zl57, zl58, zl59, zl60, zl65, zl97, zl98, zl99, zl100, zl103, zl104, zl108, zl119, zl126, zl200, zl203, zl255, zl999, zl9999, zl720, zl232, z_add, z_le, z_lt, z_eq, z_clamp, z_in, z_m4, z_m4n, z_m1n, z_b0, z_b1, m_up_eq, m_up_ne, m_upd_eq, m_upd_ne, bd_s, op_s2, Bool.false_eq_true, eq_self, if_true, if_false, if_pos, if_neg, hs, h, hc, ez]
    · simp (disch := omega) only [zl0, zl1, zl2, zl3, zl4, zl5, zl6, zl7, zl8, zl9, zl10, zl11, zl12, zl13, zl17, zl18, zl19, zl20, zl21, zl22, zl23, zl24, zl25, zl26, zl27, zl28, zl29, zl31, zl32, zl40, zl42, zl44, zl48, zl50, zl57, zl58, zl59, zl60, zl65, zl97, zl98, zl99, zl100, zl103, zl104, zl108, zl119, zl126, zl200, zl203, zl255, zl999, zl9999, zl720, zl232, z_add, z_le, z_lt, z_eq, z_clamp, z_in, z_m4, z_m4n, z_m1n, z_b0, z_b1, m_up_eq, m_up_ne, m_upd_eq, m_upd_ne, bd_s, op_s2, Bool.false_eq_true, eq_self, if_true, if_false, if_pos, if_neg, hs, h, hc, ez, Nat.add_zero]) (by
    rintro t rfl
    refine ⟨_, ?_, rfl⟩
    dsimp only [f_X2_countChildren_4]
    simp (disch := omega) only [zl0, zl1, zl2, zl3, zl4, zl5, zl6, zl7, zl8, zl9, zl10, zl11, zl12, zl13, zl17, zl18, zl19, zl20, zl21, zl22, zl23, zl24, zl25, zl26, zl27, zl28, zl29, zl31, zl32, zl40, zl42, zl44, zl48, zl50, zl57, zl58, zl59, zl60, zl65, zl97, zl98, zl99, zl100, zl103, zl104, zl108, zl119, zl126, zl200, zl203, zl255, zl999, zl9999, zl720, zl232, z_add, z_le, z_lt, z_eq, z_clamp, z_in, z_m4, z_m4n, z_m1n, z_b0, z_b1, m_up_eq, m_up_ne, m_upd_eq, m_upd_ne, bd_s, op_s2, Bool.false_eq_true, eq_self, if_true, if_false, if_pos, if_neg, h])
  subst h2
  unfold f_X2_countChildren
  rw [op_some h1]
  rfl
theorem X_countWomen {p σ : Nat → Nat} {s : fm_M} {a : Nat} (hp : PI p) (hR : RH p σ s a) (hH : HI p σ) (how : Nat) (hw : how < 1000) : f_X2_countWomen a (nI how) s = some (nI (hc σ 18 how (p 1)), s) := by
  have hp1 := hp.2.2.2.2.1
  have h := hR.2.2.2.1
  obtain ⟨x, h1, h2⟩ := it_go (body := fun (yy : fm_M × Int32 × Int32) => f_X2_countWomen_4 a (nI how) yy.1 yy.2.1 yy.2.2) (fun k t => t = (s, nI (hc σ 18 how k), nI k)) (fun x => x = (s, nI (hc σ 18 how (p 1)), nI (p 1))) (p 1) (s, 0, 0) (by omega) rfl (by
    rintro k t hk rfl
    left
    have hle := hc_le σ 18 how k
    have hs := (hR.2.2.1 k hk).1
    have hb1 := hH.1 (18 + k) (by omega)
    refine ⟨_, ?_, rfl⟩
    dsimp only [f_X2_countWomen_4, f_X2_countWomen_30]
    by_cases e : σ (18 + k) = how
    · simp (disch := omega) only [zl0, zl1, zl2, zl3, zl4, zl5, zl6, zl7, zl8, zl9, zl10, zl11, zl12, zl13, zl17, zl18, zl19, zl20, zl21, zl22, zl23, zl24, zl25, zl26, zl27, zl28, zl29, zl31, zl32, zl40, zl42, zl44, zl48, zl50, zl57, zl58, zl59, zl60, zl65, zl97, zl98, zl99, zl100, zl103, zl104, zl108, zl119, zl126, zl200, zl203, zl255, zl999, zl9999, zl720, zl232, z_add, z_le, z_lt, z_eq, z_clamp, z_in, z_m4, z_m4n, z_m1n, z_b0, z_b1, m_up_eq, m_up_ne, m_upd_eq, m_upd_ne, bd_s, op_s2, Bool.false_eq_true, eq_self, if_true, if_false, if_pos, if_neg, hs, h, hc]
    · simp (disch := omega) only [zl0, zl1, zl2, zl3, zl4, zl5, zl6, zl7, zl8, zl9, zl10, zl11, zl12, zl13, zl17, zl18, zl19, zl20, zl21, zl22, zl23, zl24, zl25, zl26, zl27, zl28, zl29, zl31, zl32, zl40, zl42, zl44, zl48, zl50, zl57, zl58, zl59, zl60, zl65, zl97, zl98, zl99, zl100, zl103, zl104, zl108, zl119, zl126, zl200, zl203, zl255, zl999, zl9999, zl720, zl232, z_add, z_le, z_lt, z_eq, z_clamp, z_in, z_m4, z_m4n, z_m1n, z_b0, z_b1, m_up_eq, m_up_ne, m_upd_eq, m_upd_ne, bd_s, op_s2, Bool.false_eq_true, eq_self, if_true, if_false, if_pos, if_neg, hs, h, hc, Nat.add_zero]) (by
    rintro t rfl
    refine ⟨_, ?_, rfl⟩
    dsimp only [f_X2_countWomen_4]
    simp (disch := omega) only [zl0, zl1, zl2, zl3, zl4, zl5, zl6, zl7, zl8, zl9, zl10, zl11, zl12, zl13, zl17, zl18, zl19, zl20, zl21, zl22, zl23, zl24, zl25, zl26, zl27, zl28, zl29, zl31, zl32, zl40, zl42, zl44, zl48, zl50, zl57, zl58, zl59, zl60, zl65, zl97, zl98, zl99, zl100, zl103, zl104, zl108, zl119, zl126, zl200, zl203, zl255, zl999, zl9999, zl720, zl232, z_add, z_le, z_lt, z_eq, z_clamp, z_in, z_m4, z_m4n, z_m1n, z_b0, z_b1, m_up_eq, m_up_ne, m_upd_eq, m_upd_ne, bd_s, op_s2, Bool.false_eq_true, eq_self, if_true, if_false, if_pos, if_neg, h])
  subst h2
  unfold f_X2_countWomen
  rw [op_some h1]
  rfl
theorem X_oneWomanLeft {p σ : Nat → Nat} {s : fm_M} {a : Nat} (hp : PI p) (hR : RH p σ s a) (hH : HI p σ) : f_X2_oneWomanLeft a s = some (bI (decide (p 1 - hc σ 18 3 (p 1) = 1)), s) := by
  have hp1 := hp.2.2.2.1
  have hp2 := hp.2.2.2.2.1
  have h := hR.2.2.2.1
  have hl := hc_le σ 18 3 (p 1)
  have hcw := X_countWomen hp hR hH 3 (by omega)
  unfold f_X2_oneWomanLeft f_X2_oneWomanLeft_19
  by_cases e : p 1 - hc σ 18 3 (p 1) = 1
  · rw [decide_eq_true e]
    simp (disch := omega) only [zl0, zl1, zl2, zl3, zl4, zl5, zl6, zl7, zl8, zl9, zl10, zl11, zl12, zl13, zl17, zl18, zl19, zl20, zl21, zl22, zl23, zl24, zl25, zl26, zl27, zl28, zl29, zl31, zl32, zl40, zl42, zl44, zl48, zl50, zl57, zl58, zl59, zl60, zl65, zl97, zl98, zl99, zl100, zl103, zl104, zl108, zl119, zl126, zl200, zl203, zl255, zl999, zl9999, zl720, zl232, z_add, z_le, z_lt, z_eq, z_clamp, z_in, z_m4, z_m4n, z_m1n, z_b0, z_b1, m_up_eq, m_up_ne, m_upd_eq, m_upd_ne, bd_s, op_s2, Bool.false_eq_true, eq_self, if_true, if_false, if_pos, if_neg, hcw, h, z_sub, bI]
  · rw [decide_eq_false e]
    simp (disch := omega) only [zl0, zl1, zl2, zl3, zl4, zl5, zl6, zl7, zl8, zl9, zl10, zl11, zl12, zl13, zl17, zl18, zl19, zl20, zl21, zl22, zl23, zl24, zl25, zl26, zl27, zl28, zl29, zl31, zl32, zl40, zl42, zl44, zl48, zl50, zl57, zl58, zl59, zl60, zl65, zl97, zl98, zl99, zl100, zl103, zl104, zl108, zl119, zl126, zl200, zl203, zl255, zl999, zl9999, zl720, zl232, z_add, z_le, z_lt, z_eq, z_clamp, z_in, z_m4, z_m4n, z_m1n, z_b0, z_b1, m_up_eq, m_up_ne, m_upd_eq, m_upd_ne, bd_s, op_s2, Bool.false_eq_true, eq_self, if_true, if_false, if_pos, if_neg, hcw, h, z_sub, bI]
theorem X_allAreOut {p σ : Nat → Nat} {s : fm_M} {a : Nat} (hp : PI p) (hP : RP p s) (hR : RH p σ s a) (hH : HI p σ) : f_X2_allAreOut a s = some (bI (decide (hc σ 0 3 (p 0) = p 0)), s) := by
  have hp0 := hp.2.2.1
  have h := hP.1
  have hl := hc_le σ 0 3 (p 0)
  have hcw := X_countChildren hp hP hR hH 3 (by omega)
  unfold f_X2_allAreOut f_X2_allAreOut_20
  by_cases e : hc σ 0 3 (p 0) = p 0
  · rw [decide_eq_true e]
    simp (disch := omega) only [zl0, zl1, zl2, zl3, zl4, zl5, zl6, zl7, zl8, zl9, zl10, zl11, zl12, zl13, zl17, zl18, zl19, zl20, zl21, zl22, zl23, zl24, zl25, zl26, zl27, zl28, zl29, zl31, zl32, zl40, zl42, zl44, zl48, zl50, zl57, zl58, zl59, zl60, zl65, zl97, zl98, zl99, zl100, zl103, zl104, zl108, zl119, zl126, zl200, zl203, zl255, zl999, zl9999, zl720, zl232, z_add, z_le, z_lt, z_eq, z_clamp, z_in, z_m4, z_m4n, z_m1n, z_b0, z_b1, m_up_eq, m_up_ne, m_upd_eq, m_upd_ne, bd_s, op_s2, Bool.false_eq_true, eq_self, if_true, if_false, if_pos, if_neg, hcw, h, bI]
  · rw [decide_eq_false e]
    simp (disch := omega) only [zl0, zl1, zl2, zl3, zl4, zl5, zl6, zl7, zl8, zl9, zl10, zl11, zl12, zl13, zl17, zl18, zl19, zl20, zl21, zl22, zl23, zl24, zl25, zl26, zl27, zl28, zl29, zl31, zl32, zl40, zl42, zl44, zl48, zl50, zl57, zl58, zl59, zl60, zl65, zl97, zl98, zl99, zl100, zl103, zl104, zl108, zl119, zl126, zl200, zl203, zl255, zl999, zl9999, zl720, zl232, z_add, z_le, z_lt, z_eq, z_clamp, z_in, z_m4, z_m4n, z_m1n, z_b0, z_b1, m_up_eq, m_up_ne, m_upd_eq, m_upd_ne, bd_s, op_s2, Bool.false_eq_true, eq_self, if_true, if_false, if_pos, if_neg, hcw, h, bI]
theorem X_lowestFree {p σ : Nat → Nat} {s : fm_M} {a : Nat} (hp : PI p) (hR : RH p σ s a) (hH : HI p σ) : f_X2_lowestFree a s = some (enL σ (p 1), s) := by
  have hp1 := hp.2.2.2.2.1
  have h := hR.2.2.2.1
  obtain ⟨c1, c2, c3⟩ := lowF_spec σ (p 1)
  obtain ⟨x, h1, h2⟩ := it_go (body := fun (yy : fm_M × Int32) => f_X2_lowestFree_2 a yy.1 yy.2) (fun k t => t = (s, nI k)) (fun x => x = if lowF σ (p 1) < p 1 then .inl (nI (lowF σ (p 1)), s) else .inr (s, nI (p 1))) (lowF σ (p 1)) (s, 0) (by omega) rfl (by
    rintro k t hk rfl
    left
    refine ⟨(s, nI (k + 1)), ?_, rfl⟩
    have hf := X_isFree hp hR hH (nI k)
    have e2 := c3 k hk
    rw [z_clamp (by omega), decide_eq_false e2, Bool.and_false] at hf
    dsimp only [f_X2_lowestFree_2]
    simp (disch := omega) only [zl0, zl1, zl2, zl3, zl4, zl5, zl6, zl7, zl8, zl9, zl10, zl11, zl12, zl13, zl17, zl18, zl19, zl20, zl21, zl22, zl23, zl24, zl25, zl26, zl27, zl28, zl29, zl31, zl32, zl40, zl42, zl44, zl48, zl50, zl57, zl58, zl59, zl60, zl65, zl97, zl98, zl99, zl100, zl103, zl104, zl108, zl119, zl126, zl200, zl203, zl255, zl999, zl9999, zl720, zl232, z_add, z_le, z_lt, z_eq, z_clamp, z_in, z_m4, z_m4n, z_m1n, z_b0, z_b1, m_up_eq, m_up_ne, m_upd_eq, m_upd_ne, bd_s, op_s2, Bool.false_eq_true, eq_self, if_true, if_false, if_pos, if_neg, h, hf, bI]) (by
    rintro t rfl
    refine ⟨_, ?_, rfl⟩
    by_cases e : lowF σ (p 1) < p 1
    · have hf := X_isFree hp hR hH (nI (lowF σ (p 1)))
      have e1 : fm_in (nI (lowF σ (p 1))) (p 1) = true := by rw [z_in (by omega)]; exact e
      rw [z_clamp (by omega), decide_eq_true (c2 e), e1] at hf
      dsimp only [f_X2_lowestFree_2]
      rw [if_pos e]
      simp (disch := omega) only [zl0, zl1, zl2, zl3, zl4, zl5, zl6, zl7, zl8, zl9, zl10, zl11, zl12, zl13, zl17, zl18, zl19, zl20, zl21, zl22, zl23, zl24, zl25, zl26, zl27, zl28, zl29, zl31, zl32, zl40, zl42, zl44, zl48, zl50, zl57, zl58, zl59, zl60, zl65, zl97, zl98, zl99, zl100, zl103, zl104, zl108, zl119, zl126, zl200, zl203, zl255, zl999, zl9999, zl720, zl232, z_add, z_le, z_lt, z_eq, z_clamp, z_in, z_m4, z_m4n, z_m1n, z_b0, z_b1, m_up_eq, m_up_ne, m_upd_eq, m_upd_ne, bd_s, op_s2, Bool.false_eq_true, eq_self, if_true, if_false, if_pos, if_neg, h, hf, bI, Bool.and_self]
    · have e3 : lowF σ (p 1) = p 1 := by omega
      dsimp only [f_X2_lowestFree_2]
      rw [if_neg e, e3]
      simp (disch := omega) only [zl0, zl1, zl2, zl3, zl4, zl5, zl6, zl7, zl8, zl9, zl10, zl11, zl12, zl13, zl17, zl18, zl19, zl20, zl21, zl22, zl23, zl24, zl25, zl26, zl27, zl28, zl29, zl31, zl32, zl40, zl42, zl44, zl48, zl50, zl57, zl58, zl59, zl60, zl65, zl97, zl98, zl99, zl100, zl103, zl104, zl108, zl119, zl126, zl200, zl203, zl255, zl999, zl9999, zl720, zl232, z_add, z_le, z_lt, z_eq, z_clamp, z_in, z_m4, z_m4n, z_m1n, z_b0, z_b1, m_up_eq, m_up_ne, m_upd_eq, m_upd_ne, bd_s, op_s2, Bool.false_eq_true, eq_self, if_true, if_false, if_pos, if_neg, h])
  unfold f_X2_lowestFree enL
  rw [op_some h1, h2]
  by_cases e : lowF σ (p 1) < p 1
  · rw [if_pos e, if_pos e]; rfl
  · rw [if_neg e, if_neg e]; rfl
theorem X_highestFree {p σ : Nat → Nat} {s : fm_M} {a : Nat} (hp : PI p) (hR : RH p σ s a) (hH : HI p σ) : f_X2_highestFree a s = some (enH σ (p 1), s) := by
  have hp1 := hp.2.2.2.2.1
  have h := hR.2.2.2.1
  obtain ⟨c1, c2, c3⟩ := highF_spec σ (p 1)
  obtain ⟨x, h1, h2⟩ := it_go (body := fun (yy : fm_M × Int32) => f_X2_highestFree_7 a yy.1 yy.2) (fun k t => t = (s, nI (p 1 - k) - nI 1)) (fun x => x = if 0 < highF σ (p 1) then .inl (nI (highF σ (p 1) - 1), s) else .inr (s, nI 0 - nI 1)) (p 1 - highF σ (p 1)) (s, nI (p 1) - nI 1) (by omega) rfl (by
    rintro k t hk rfl
    left
    refine ⟨(s, nI (p 1 - (k + 1)) - nI 1), ?_, rfl⟩
    have e2 : nI (p 1 - (k + 1)) - nI 1 = nI (p 1 - k - 1) + (-1) := by rw [z_addm1, show p 1 - (k + 1) = p 1 - k - 1 by omega]
    have hf := X_isFree hp hR hH (nI (p 1 - k - 1))
    have e3 := c3 (p 1 - k - 1) (by omega) (by omega)
    rw [z_clamp (by omega), decide_eq_false e3, Bool.and_false] at hf
    dsimp only [f_X2_highestFree_7]
    rw [e2]
    simp (disch := omega) only [zl0, zl1, zl2, zl3, zl4, zl5, zl6, zl7, zl8, zl9, zl10, zl11, zl12, zl13, zl17, zl18, zl19, zl20, zl21, zl22, zl23, zl24, zl25, zl26, zl27, zl28, zl29, zl31, zl32, zl40, zl42, zl44, zl48, zl50, zl57, zl58, zl59, zl60, zl65, zl97, zl98, zl99, zl100, zl103, zl104, zl108, zl119, zl126, zl200, zl203, zl255, zl999, zl9999, zl720, zl232, z_add, z_le, z_lt, z_eq, z_clamp, z_in, z_m4, z_m4n, z_m1n, z_b0, z_b1, m_up_eq, m_up_ne, m_upd_eq, m_upd_ne, bd_s, op_s2, Bool.false_eq_true, eq_self, if_true, if_false, if_pos, if_neg, hf, bI, z_sub]) (by
    rintro t rfl
    refine ⟨_, ?_, rfl⟩
    by_cases e : 0 < highF σ (p 1)
    · have e4 : p 1 - (p 1 - highF σ (p 1)) = highF σ (p 1) := by omega
      have hf := X_isFree hp hR hH (nI (highF σ (p 1) - 1))
      have e1 : fm_in (nI (highF σ (p 1) - 1)) (p 1) = true := by rw [z_in (by omega)]; omega
      rw [z_clamp (by omega), decide_eq_true (c2 e), e1] at hf
      dsimp only [f_X2_highestFree_7]
      rw [if_pos e, e4]
      simp (disch := omega) only [zl0, zl1, zl2, zl3, zl4, zl5, zl6, zl7, zl8, zl9, zl10, zl11, zl12, zl13, zl17, zl18, zl19, zl20, zl21, zl22, zl23, zl24, zl25, zl26, zl27, zl28, zl29, zl31, zl32, zl40, zl42, zl44, zl48, zl50, zl57, zl58, zl59, zl60, zl65, zl97, zl98, zl99, zl100, zl103, zl104, zl108, zl119, zl126, zl200, zl203, zl255, zl999, zl9999, zl720, zl232, z_add, z_le, z_lt, z_eq, z_clamp, z_in, z_m4, z_m4n, z_m1n, z_b0, z_b1, m_up_eq, m_up_ne, m_upd_eq, m_upd_ne, bd_s, op_s2, Bool.false_eq_true, eq_self, if_true, if_false, if_pos, if_neg, hf, bI, Bool.and_self, z_sub]
    · have e4 : p 1 - (p 1 - highF σ (p 1)) = 0 := by omega
      dsimp only [f_X2_highestFree_7]
      rw [if_neg e, e4, if_pos (by decide)])
  unfold f_X2_highestFree enH
  rw [h, show nI (p 1) - (1 : Int32) = nI (p 1) - nI 1 from rfl, op_some h1, h2]
  by_cases e : 0 < highF σ (p 1)
  · rw [if_pos e, if_pos e]; rfl
  · rw [if_neg e, if_neg e]; rfl
theorem X_minutesFor (k t la : Nat) (hk : k < 100) (ht : t < 100) (hl : la ≤ 1) (s : fm_M) : f_X4_minutesFor (nI k) (nI t) (nI la) s = some (nI (mins k t la), s) := by
  have key : ∀ i, i < 200 → f_X4_minutesFor_25 (nI la) (nI i) s = some (nI (if la = 1 ∧ 1 < i then i - 1 else i), s) := by
    intro i hi
    unfold f_X4_minutesFor_25 f_X4_minutesFor_40 f_X4_minutesFor_41
    by_cases e1 : la = 0
    · have e3 : ¬ (la = 1 ∧ 1 < i) := by omega
      simp (disch := omega) only [zl0, zl1, zl2, zl3, zl4, zl5, zl6, zl7, zl8, zl9, zl10, zl11, zl12, zl13, zl17, zl18, zl19, zl20, zl21, zl22, zl23, zl24, zl25, zl26, zl27, zl28, zl29, zl31, zl32, zl40, zl42, zl44, zl48, zl50, zl57, zl58, zl59, zl60, zl65, zl97, zl98, zl99, zl100, zl103, zl104, zl108, zl119, zl126, zl200, zl203, zl255, zl999, zl9999, zl720, zl232, z_add, z_le, z_lt, z_eq, z_clamp, z_in, z_m4, z_m4n, z_m1n, z_b0, z_b1, m_up_eq, m_up_ne, m_upd_eq, m_upd_ne, bd_s, op_s2, Bool.false_eq_true, eq_self, if_true, if_false, if_pos, if_neg]
    · by_cases e2 : i ≤ 1
      · have e3 : ¬ (la = 1 ∧ 1 < i) := by omega
        simp (disch := omega) only [zl0, zl1, zl2, zl3, zl4, zl5, zl6, zl7, zl8, zl9, zl10, zl11, zl12, zl13, zl17, zl18, zl19, zl20, zl21, zl22, zl23, zl24, zl25, zl26, zl27, zl28, zl29, zl31, zl32, zl40, zl42, zl44, zl48, zl50, zl57, zl58, zl59, zl60, zl65, zl97, zl98, zl99, zl100, zl103, zl104, zl108, zl119, zl126, zl200, zl203, zl255, zl999, zl9999, zl720, zl232, z_add, z_le, z_lt, z_eq, z_clamp, z_in, z_m4, z_m4n, z_m1n, z_b0, z_b1, m_up_eq, m_up_ne, m_upd_eq, m_upd_ne, bd_s, op_s2, Bool.false_eq_true, eq_self, if_true, if_false, if_pos, if_neg]
      · have e3 : la = 1 ∧ 1 < i := by omega
        simp (disch := omega) only [zl0, zl1, zl2, zl3, zl4, zl5, zl6, zl7, zl8, zl9, zl10, zl11, zl12, zl13, zl17, zl18, zl19, zl20, zl21, zl22, zl23, zl24, zl25, zl26, zl27, zl28, zl29, zl31, zl32, zl40, zl42, zl44, zl48, zl50, zl57, zl58, zl59, zl60, zl65, zl97, zl98, zl99, zl100, zl103, zl104, zl108, zl119, zl126, zl200, zl203, zl255, zl999, zl9999, zl720, zl232, z_add, z_le, z_lt, z_eq, z_clamp, z_in, z_m4, z_m4n, z_m1n, z_b0, z_b1, m_up_eq, m_up_ne, m_upd_eq, m_upd_ne, bd_s, op_s2, Bool.false_eq_true, eq_self, if_true, if_false, if_pos, if_neg, z_sub]
  unfold f_X4_minutesFor mins mi0
  by_cases e1 : k = 1
  · simp (disch := omega) only [zl0, zl1, zl2, zl3, zl4, zl5, zl6, zl7, zl8, zl9, zl10, zl11, zl12, zl13, zl17, zl18, zl19, zl20, zl21, zl22, zl23, zl24, zl25, zl26, zl27, zl28, zl29, zl31, zl32, zl40, zl42, zl44, zl48, zl50, zl57, zl58, zl59, zl60, zl65, zl97, zl98, zl99, zl100, zl103, zl104, zl108, zl119, zl126, zl200, zl203, zl255, zl999, zl9999, zl720, zl232, z_add, z_le, z_lt, z_eq, z_clamp, z_in, z_m4, z_m4n, z_m1n, z_b0, z_b1, m_up_eq, m_up_ne, m_upd_eq, m_upd_ne, bd_s, op_s2, Bool.false_eq_true, eq_self, if_true, if_false, if_pos, if_neg, z_div, key]
  · by_cases e2 : k = 3
    · simp (disch := omega) only [zl0, zl1, zl2, zl3, zl4, zl5, zl6, zl7, zl8, zl9, zl10, zl11, zl12, zl13, zl17, zl18, zl19, zl20, zl21, zl22, zl23, zl24, zl25, zl26, zl27, zl28, zl29, zl31, zl32, zl40, zl42, zl44, zl48, zl50, zl57, zl58, zl59, zl60, zl65, zl97, zl98, zl99, zl100, zl103, zl104, zl108, zl119, zl126, zl200, zl203, zl255, zl999, zl9999, zl720, zl232, z_add, z_le, z_lt, z_eq, z_clamp, z_in, z_m4, z_m4n, z_m1n, z_b0, z_b1, m_up_eq, m_up_ne, m_upd_eq, m_upd_ne, bd_s, op_s2, Bool.false_eq_true, eq_self, if_true, if_false, if_pos, if_neg, key]
    · simp (disch := omega) only [zl0, zl1, zl2, zl3, zl4, zl5, zl6, zl7, zl8, zl9, zl10, zl11, zl12, zl13, zl17, zl18, zl19, zl20, zl21, zl22, zl23, zl24, zl25, zl26, zl27, zl28, zl29, zl31, zl32, zl40, zl42, zl44, zl48, zl50, zl57, zl58, zl59, zl60, zl65, zl97, zl98, zl99, zl100, zl103, zl104, zl108, zl119, zl126, zl200, zl203, zl255, zl999, zl9999, zl720, zl232, z_add, z_le, z_lt, z_eq, z_clamp, z_in, z_m4, z_m4n, z_m1n, z_b0, z_b1, m_up_eq, m_up_ne, m_upd_eq, m_upd_ne, bd_s, op_s2, Bool.false_eq_true, eq_self, if_true, if_false, if_pos, if_neg, key]
theorem X_minutesToDress {p σ : Nat → Nat} {s : fm_M} {a : Nat} (hp : PI p) (hP : RP p s) (h9 : s a 9 = nI (σ 27)) (hH : HI p σ) {c : Nat} (hc : c < p 0) : f_X2_minutesToDress a (nI c) s = some (nI (minsOf p σ c), s) := by
  have hp0 := hp.2.2.1
  have h := X_hasChild hp hP.1 (nI c)
  have e1 : fm_in (nI c) (p 0) = true := by rw [z_in (by omega)]; exact hc
  rw [e1] at h
  obtain ⟨h7, h8⟩ := hP.2.2.2.2 c hc
  have hm := X_minutesFor (p (5 + c)) (p (11 + c)) (σ 27) (hp.1 _ (by omega)) (hp.1 _ (by omega)) hH.2.2.2.2.1 s
  unfold f_X2_minutesToDress f_X2_minutesToDress_41
  simp (disch := omega) only [zl0, zl1, zl2, zl3, zl4, zl5, zl6, zl7, zl8, zl9, zl10, zl11, zl12, zl13, zl17, zl18, zl19, zl20, zl21, zl22, zl23, zl24, zl25, zl26, zl27, zl28, zl29, zl31, zl32, zl40, zl42, zl44, zl48, zl50, zl57, zl58, zl59, zl60, zl65, zl97, zl98, zl99, zl100, zl103, zl104, zl108, zl119, zl126, zl200, zl203, zl255, zl999, zl9999, zl720, zl232, z_add, z_le, z_lt, z_eq, z_clamp, z_in, z_m4, z_m4n, z_m1n, z_b0, z_b1, m_up_eq, m_up_ne, m_upd_eq, m_upd_ne, bd_s, op_s2, Bool.false_eq_true, eq_self, if_true, if_false, if_pos, if_neg, h, h7, h8, h9, hm, bI, minsOf]
