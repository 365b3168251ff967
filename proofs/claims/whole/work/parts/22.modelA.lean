/-! the reference's small methods -/
theorem M_how {m : fm_M} {σ : Nat → Nat} (hσ : ∀ j, j < 29 → m 4 j = nI (σ j)) (hb : ∀ j, j < 29 → σ j < 3000) (fr many how : Nat) (h : fr + many ≤ 29) (hw : how < 1000) : f_X9_how (nI fr) (nI many) (nI how) m = some (nI (hc σ fr how many), m) := by
  obtain ⟨x, h1, h2⟩ := it_go (body := fun (yy : fm_M × Int32 × Int32) => f_X9_how_6 (nI fr) (nI many) (nI how) yy.1 yy.2.1 yy.2.2) (fun k s => s = (m, nI (hc σ fr how k), nI k)) (fun x => x = (m, nI (hc σ fr how many), nI many)) many (m, 0, 0) (by omega) rfl (by
    rintro k s hk rfl
    left
    have hle := hc_le σ fr how k
    have hs := hσ (fr + k) (by omega)
    have hb1 := hb (fr + k) (by omega)
    by_cases e : σ (fr + k) = how
    · refine ⟨_, ?_, rfl⟩
      dsimp only [f_X9_how_6, f_X9_how_32]
      simp (disch := omega) only [zl0, zl1, zl2, zl3, zl4, zl5, zl6, zl7, zl8, zl9, zl10, zl11, zl12, zl13, zl17, zl18, zl19, zl20, zl21, zl22, zl23, zl24, zl25, zl26, zl27, zl28, zl29, zl31, zl32, zl40, zl42, zl44, zl48, zl50, zl57, zl58, zl59, zl60, zl65, zl97, zl98, zl99, zl100, zl103, zl104, zl108, zl119, zl126, zl200, zl203, zl255, zl999, zl9999, zl720, zl232, z_add, z_le, z_lt, z_eq, z_clamp, z_in, z_m4, z_m4n, z_m1n, z_b0, z_b1, m_up_eq, m_up_ne, m_upd_eq, m_upd_ne, bd_s, op_s2, Bool.false_eq_true, eq_self, if_true, if_false, if_pos, if_neg, hs, hc]
    · refine ⟨_, ?_, rfl⟩
      dsimp only [f_X9_how_6, f_X9_how_32]
      simp (disch := omega) only [zl0, zl1, zl2, zl3, zl4, zl5, zl6, zl7, zl8, zl9, zl10, zl11, zl12, zl13, zl17, zl18, zl19, zl20, zl21, zl22, zl23, zl24, zl25, zl26, zl27, zl28, zl29, zl31, zl32, zl40, zl42, zl44, zl48, zl50, zl57, zl58, zl59, zl60, zl65, zl97, zl98, zl99, zl100, zl103, zl104, zl108, zl119, zl126, zl200, zl203, zl255, zl999, zl9999, zl720, zl232, z_add, z_le, z_lt, z_eq, z_clamp, z_in, z_m4, z_m4n, z_m1n, z_b0, z_b1, m_up_eq, m_up_ne, m_upd_eq, m_upd_ne, bd_s, op_s2, Bool.false_eq_true, eq_self, if_true, if_false, if_pos, if_neg, hs, hc]) (by
    rintro s rfl
    refine ⟨_, ?_, rfl⟩
    dsimp only [f_X9_how_6]
    simp (disch := omega) only [zl0, zl1, zl2, zl3, zl4, zl5, zl6, zl7, zl8, zl9, zl10, zl11, zl12, zl13, zl17, zl18, zl19, zl20, zl21, zl22, zl23, zl24, zl25, zl26, zl27, zl28, zl29, zl31, zl32, zl40, zl42, zl44, zl48, zl50, zl57, zl58, zl59, zl60, zl65, zl97, zl98, zl99, zl100, zl103, zl104, zl108, zl119, zl126, zl200, zl203, zl255, zl999, zl9999, zl720, zl232, z_add, z_le, z_lt, z_eq, z_clamp, z_in, z_m4, z_m4n, z_m1n, z_b0, z_b1, m_up_eq, m_up_ne, m_upd_eq, m_upd_ne, bd_s, op_s2, Bool.false_eq_true, eq_self, if_true, if_false, if_pos, if_neg])
  subst h2
  unfold f_X9_how
  rw [op_some h1]
theorem M_in (v a b : Int32) (m : fm_M) : f_X9_in v a b m = some (bI (decide (a ≤ v) && decide (v ≤ b)), m) := by
  unfold f_X9_in f_X9_in_14 f_X9_in_15
  by_cases h1 : v < a
  · have h2 : ¬ a ≤ v := by rw [Int32.not_le]; exact h1
    simp [h1, h2, bI, fm_b, f_X9_in_15]
  · have h2 : a ≤ v := Int32.not_lt.mp h1
    by_cases h3 : b < v
    · have h4 : ¬ v ≤ b := by rw [Int32.not_le]; exact h3
      simp [h1, h3, h4, bI, fm_b, f_X9_in_15]
    · have h4 : v ≤ b := Int32.not_lt.mp h3
      simp [h1, h2, h3, h4, bI, fm_b, f_X9_in_15]
theorem in_dec (v : Int32) {n : Nat} (hn : 1 ≤ n) (hn2 : n < 2147483648) : (decide ((0 : Int32) ≤ v) && decide (v ≤ nI n - (1 : Int32))) = fm_in v n := by
  rw [show (1 : Int32) = nI 1 from rfl, show (0 : Int32) = nI 0 from rfl, z_sub hn]
  unfold fm_in
  rw [Bool.eq_iff_iff]
  simp only [Bool.and_eq_true, decide_eq_true_eq, Int32.le_iff_toInt_le]
  rw [nI_toInt (by omega), nI_toInt (by omega)]
  omega
theorem M_isChild {p σ : Nat → Nat} {m : fm_M} (hp : PI p) (hR : RM p σ m) (c : Int32) : f_X9_isChild c m = some (bI (fm_in c (p 0)), m) := by
  have h0 := hR.1 0 (by omega)
  obtain ⟨hb, h1, h2, -⟩ := hp
  unfold f_X9_isChild
  rw [show (0 : Int32).toNatClampNeg = 0 by decide, h0, bd_some (M_in _ _ _ _), in_dec c h1 (by omega)]
  simp only [bI_b, if_true]
  rfl
theorem M_isWoman {p σ : Nat → Nat} {m : fm_M} (hp : PI p) (hR : RM p σ m) (c : Int32) : f_X9_isWoman c m = some (bI (fm_in c (p 1)), m) := by
  have h0 := hR.1 1 (by omega)
  obtain ⟨hb, h1, h2, h3, h4, -⟩ := hp
  unfold f_X9_isWoman
  rw [show (1 : Int32).toNatClampNeg = 1 by decide, h0, bd_some (M_in _ _ _ _), in_dec c h3 (by omega)]
  simp only [bI_b, if_true]
  rfl
theorem M_children {p σ : Nat → Nat} {m : fm_M} (hp : PI p) (hR : RM p σ m) (hH : HI p σ) (how : Nat) (hw : how < 1000) : f_X9_children (nI how) m = some (nI (hc σ 0 how (p 0)), m) := by
  have h0 := hR.1 0 (by omega)
  have hp2 := hp.2.2.1
  unfold f_X9_children
  rw [show (0 : Int32).toNatClampNeg = 0 by decide, h0, bd_some (show f_X9_how (0 : Int32) _ _ m = _ from M_how hR.2 hH.1 0 (p 0) how (by omega) hw)]
  rfl
theorem M_notOut {p σ : Nat → Nat} {m : fm_M} (hp : PI p) (hR : RM p σ m) (hH : HI p σ) : f_X9_notOut m = some (nI (p 1 - hc σ 18 3 (p 1)), m) := by
  have h0 := hR.1 1 (by omega)
  have hp2 := hp.2.2.2.2.1
  have hl := hc_le σ 18 3 (p 1)
  unfold f_X9_notOut
  rw [show (1 : Int32).toNatClampNeg = 1 by decide, h0, bd_some (show f_X9_how (18 : Int32) _ (3 : Int32) m = _ from M_how hR.2 hH.1 18 (p 1) 3 (by omega) (by omega)), z_sub hl]
  rfl
theorem M_minutes (k t la : Nat) (hk : k < 100) (ht : t < 100) (hl : la < 100) (h1 : 1 ≤ t) (m : fm_M) : f_X9_minutes (nI k) (nI t) (nI la) m = some (nI (mins k t la), m) := by
  have key : ∀ i, i < 200 → f_X9_minutes_25 (nI la) (nI i) m = some (nI (if la = 1 ∧ 1 < i then i - 1 else i), m) := by
    intro i hi
    unfold f_X9_minutes_25 f_X9_minutes_42 f_X9_minutes_43
    by_cases e1 : la = 1
    · by_cases e2 : i ≤ 1
      · have e3 : ¬ (la = 1 ∧ 1 < i) := by omega
        simp (disch := omega) only [zl0, zl1, zl2, zl3, zl4, zl5, zl6, zl7, zl8, zl9, zl10, zl11, zl12, zl13, zl17, zl18, zl19, zl20, zl21, zl22, zl23, zl24, zl25, zl26, zl27, zl28, zl29, zl31, zl32, zl40, zl42, zl44, zl48, zl50, zl57, zl58, zl59, zl60, zl65, zl97, zl98, zl99, zl100, zl103, zl104, zl108, zl119, zl126, zl200, zl203, zl255, zl999, zl9999, zl720, zl232, z_add, z_le, z_lt, z_eq, z_clamp, z_in, z_m4, z_m4n, z_m1n, z_b0, z_b1, m_up_eq, m_up_ne, m_upd_eq, m_upd_ne, bd_s, op_s2, Bool.false_eq_true, eq_self, if_true, if_false, if_pos, if_neg]
      · have e3 : la = 1 ∧ 1 < i := by omega
        simp (disch := omega) only [zl0, zl1, zl2, zl3, zl4, zl5, zl6, zl7, zl8, zl9, zl10, zl11, zl12, zl13, zl17, zl18, zl19, zl20, zl21, zl22, zl23, zl24, zl25, zl26, zl27, zl28, zl29, zl31, zl32, zl40, zl42, zl44, zl48, zl50, zl57, zl58, zl59, zl60, zl65, zl97, zl98, zl99, zl100, zl103, zl104, zl108, zl119, zl126, zl200, zl203, zl255, zl999, zl9999, zl720, zl232, z_add, z_le, z_lt, z_eq, z_clamp, z_in, z_m4, z_m4n, z_m1n, z_b0, z_b1, m_up_eq, m_up_ne, m_upd_eq, m_upd_ne, bd_s, op_s2, Bool.false_eq_true, eq_self, if_true, if_false, if_pos, if_neg, z_sub]
    · have e3 : ¬ (la = 1 ∧ 1 < i) := by omega
      simp (disch := omega) only [zl0, zl1, zl2, zl3, zl4, zl5, zl6, zl7, zl8, zl9, zl10, zl11, zl12, zl13, zl17, zl18, zl19, zl20, zl21, zl22, zl23, zl24, zl25, zl26, zl27, zl28, zl29, zl31, zl32, zl40, zl42, zl44, zl48, zl50, zl57, zl58, zl59, zl60, zl65, zl97, zl98, zl99, zl100, zl103, zl104, zl108, zl119, zl126, zl200, zl203, zl255, zl999, zl9999, zl720, zl232, z_add, z_le, z_lt, z_eq, z_clamp, z_in, z_m4, z_m4n, z_m1n, z_b0, z_b1, m_up_eq, m_up_ne, m_upd_eq, m_upd_ne, bd_s, op_s2, Bool.false_eq_true, eq_self, if_true, if_false, if_pos, if_neg]
  unfold f_X9_minutes mins mi0
  by_cases e1 : k = 1
  · simp (disch := omega) only [zl0, zl1, zl2, zl3, zl4, zl5, zl6, zl7, zl8, zl9, zl10, zl11, zl12, zl13, zl17, zl18, zl19, zl20, zl21, zl22, zl23, zl24, zl25, zl26, zl27, zl28, zl29, zl31, zl32, zl40, zl42, zl44, zl48, zl50, zl57, zl58, zl59, zl60, zl65, zl97, zl98, zl99, zl100, zl103, zl104, zl108, zl119, zl126, zl200, zl203, zl255, zl999, zl9999, zl720, zl232, z_add, z_le, z_lt, z_eq, z_clamp, z_in, z_m4, z_m4n, z_m1n, z_b0, z_b1, m_up_eq, m_up_ne, m_upd_eq, m_upd_ne, bd_s, op_s2, Bool.false_eq_true, eq_self, if_true, if_false, if_pos, if_neg, z_div, key]
  · by_cases e2 : k = 3
    · simp (disch := omega) only [zl0, zl1, zl2, zl3, zl4, zl5, zl6, zl7, zl8, zl9, zl10, zl11, zl12, zl13, zl17, zl18, zl19, zl20, zl21, zl22, zl23, zl24, zl25, zl26, zl27, zl28, zl29, zl31, zl32, zl40, zl42, zl44, zl48, zl50, zl57, zl58, zl59, zl60, zl65, zl97, zl98, zl99, zl100, zl103, zl104, zl108, zl119, zl126, zl200, zl203, zl255, zl999, zl9999, zl720, zl232, z_add, z_le, z_lt, z_eq, z_clamp, z_in, z_m4, z_m4n, z_m1n, z_b0, z_b1, m_up_eq, m_up_ne, m_upd_eq, m_upd_ne, bd_s, op_s2, Bool.false_eq_true, eq_self, if_true, if_false, if_pos, if_neg, key]
    · simp (disch := omega) only [zl0, zl1, zl2, zl3, zl4, zl5, zl6, zl7, zl8, zl9, zl10, zl11, zl12, zl13, zl17, zl18, zl19, zl20, zl21, zl22, zl23, zl24, zl25, zl26, zl27, zl28, zl29, zl31, zl32, zl40, zl42, zl44, zl48, zl50, zl57, zl58, zl59, zl60, zl65, zl97, zl98, zl99, zl100, zl103, zl104, zl108, zl119, zl126, zl200, zl203, zl255, zl999, zl9999, zl720, zl232, z_add, z_le, z_lt, z_eq, z_clamp, z_in, z_m4, z_m4n, z_m1n, z_b0, z_b1, m_up_eq, m_up_ne, m_upd_eq, m_upd_ne, bd_s, op_s2, Bool.false_eq_true, eq_self, if_true, if_false, if_pos, if_neg, key]
theorem M_minutesOf {p σ : Nat → Nat} {m : fm_M} (hp : PI p) (hR : RM p σ m) (hH : HI p σ) {c : Nat} (hc : c < p 0) : f_X9_minutesOf (nI c) m = some (nI (minsOf p σ c), m) := by
  have hp2 := hp.2.2.1
  have a1 := hR.1 (5 + c) (by omega)
  have a2 := hR.1 (11 + c) (by omega)
  have a3 := hR.2 27 (by omega)
  have b1 := hp.1 (5 + c) (by omega)
  have b2 := hp.1 (11 + c) (by omega)
  have b3 := hH.2.2.2.2.1
  have b4 := (hp.2.2.2.2.2.2.2.2.2.2.2 c hc).2.1
  unfold f_X9_minutesOf
  simp (disch := omega) only [zl0, zl1, zl2, zl3, zl4, zl5, zl6, zl7, zl8, zl9, zl10, zl11, zl12, zl13, zl17, zl18, zl19, zl20, zl21, zl22, zl23, zl24, zl25, zl26, zl27, zl28, zl29, zl31, zl32, zl40, zl42, zl44, zl48, zl50, zl57, zl58, zl59, zl60, zl65, zl97, zl98, zl99, zl100, zl103, zl104, zl108, zl119, zl126, zl200, zl203, zl255, zl999, zl9999, zl720, zl232, z_add, z_le, z_lt, z_eq, z_clamp, z_in, z_m4, z_m4n, z_m1n, z_b0, z_b1, m_up_eq, m_up_ne, m_upd_eq, m_upd_ne, bd_s, op_s2, Bool.false_eq_true, eq_self, if_true, if_false, if_pos, if_neg, a1, a2, a3]
  rw [bd_some (M_minutes _ _ _ b1 b2 (by omega) b4 m)]
  rfl
theorem M_highestFree {p σ : Nat → Nat} {m : fm_M} (hp : PI p) (hR : RM p σ m) (hH : HI p σ) : f_X9_highestFree m = some (enH σ (p 1), m) := by
  have h0 := hR.1 1 (by omega)
  have hp2 := hp.2.2.2.2.1
  obtain ⟨x, h1, h2⟩ := it_go (body := fun (yy : fm_M × Int32 × Int32) => f_X9_highestFree_5 yy.1 yy.2.1 yy.2.2) (fun k s => s = (m, enH σ k, nI k)) (fun x => x = (m, enH σ (p 1), nI (p 1))) (p 1) (m, -4, 0) (by omega) rfl (by
    rintro k s hk rfl
    left
    have hs := hR.2 (18 + k) (by omega)
    have hb1 := hH.1 (18 + k) (by omega)
    by_cases e : σ (18 + k) = 0
    · refine ⟨_, ?_, rfl⟩
      dsimp only [f_X9_highestFree_5, f_X9_highestFree_32]
      simp (disch := omega) only [zl0, zl1, zl2, zl3, zl4, zl5, zl6, zl7, zl8, zl9, zl10, zl11, zl12, zl13, zl17, zl18, zl19, zl20, zl21, zl22, zl23, zl24, zl25, zl26, zl27, zl28, zl29, zl31, zl32, zl40, zl42, zl44, zl48, zl50, zl57, zl58, zl59, zl60, zl65, zl97, zl98, zl99, zl100, zl103, zl104, zl108, zl119, zl126, zl200, zl203, zl255, zl999, zl9999, zl720, zl232, z_add, z_le, z_lt, z_eq, z_clamp, z_in, z_m4, z_m4n, z_m1n, z_b0, z_b1, m_up_eq, m_up_ne, m_upd_eq, m_upd_ne, bd_s, op_s2, Bool.false_eq_true, eq_self, if_true, if_false, if_pos, if_neg, hs, h0, enH, highF, Nat.add_sub_cancel]
    · refine ⟨_, ?_, rfl⟩
      dsimp only [f_X9_highestFree_5, f_X9_highestFree_32]
      simp (disch := omega) only [zl0, zl1, zl2, zl3, zl4, zl5, zl6, zl7, zl8, zl9, zl10, zl11, zl12, zl13, zl17, zl18, zl19, zl20, zl21, zl22, zl23, zl24, zl25, zl26, zl27, zl28, zl29, zl31, zl32, zl40, zl42, zl44, zl48, zl50, zl57, zl58, zl59, zl60, zl65, zl97, zl98, zl99, zl100, zl103, zl104, zl108, zl119, zl126, zl200, zl203, zl255, zl999, zl9999, zl720, zl232, z_add, z_le, z_lt, z_eq, z_clamp, z_in, z_m4, z_m4n, z_m1n, z_b0, z_b1, m_up_eq, m_up_ne, m_upd_eq, m_upd_ne, bd_s, op_s2, Bool.false_eq_true, eq_self, if_true, if_false, if_pos, if_neg, hs, h0, enH, highF]) (by
    rintro s rfl
    refine ⟨_, ?_, rfl⟩
    dsimp only [f_X9_highestFree_5]
    simp (disch := omega) only [zl0, zl1, zl2, zl3, zl4, zl5, zl6, zl7, zl8, zl9, zl10, zl11, zl12, zl13, zl17, zl18, zl19, zl20, zl21, zl22, zl23, zl24, zl25, zl26, zl27, zl28, zl29, zl31, zl32, zl40, zl42, zl44, zl48, zl50, zl57, zl58, zl59, zl60, zl65, zl97, zl98, zl99, zl100, zl103, zl104, zl108, zl119, zl126, zl200, zl203, zl255, zl999, zl9999, zl720, zl232, z_add, z_le, z_lt, z_eq, z_clamp, z_in, z_m4, z_m4n, z_m1n, z_b0, z_b1, m_up_eq, m_up_ne, m_upd_eq, m_upd_ne, bd_s, op_s2, Bool.false_eq_true, eq_self, if_true, if_false, if_pos, if_neg, h0])
  subst h2
  unfold f_X9_highestFree
  rw [op_some h1]
