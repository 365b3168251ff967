/-! the reference: the door, the row -/
theorem M_hot {p σ : Nat → Nat} {m : fm_M} (hp : PI p) (hR : RM p σ m) (hH : HI p σ) (v1 v2 v3 v4 : Int32) : fm_it (fun (yy : fm_M × Int32 × Int32) => f_X9_opens_38 v1 v2 v3 v4 yy.1 yy.2.1 yy.2.2) fm_fu (m, -4, 0) = some (m, enO σ (p 0), nI (p 0)) := by
  have hp0 := hp.2.2.1
  obtain ⟨x, h1, h2⟩ := it_go (body := fun (yy : fm_M × Int32 × Int32) => f_X9_opens_38 v1 v2 v3 v4 yy.1 yy.2.1 yy.2.2) (fun k s => s = (m, enO σ k, nI k)) (fun x => x = (m, enO σ (p 0), nI (p 0))) (p 0) (m, -4, 0) (by omega) rfl (by
    rintro k s hk rfl
    left
    have a0 := hR.1 0 (by omega)
    have c0 := hR.2 k (by omega)
    have c6 := hR.2 (6 + k) (by omega)
    have d0 := hH.1 k (by omega)
    have d6 := hH.1 (6 + k) (by omega)
    have hl := (hoF_le σ k).1
    have c7 := hR.2 (6 + (hoF σ k - 1)) (by omega)
    have d7 := hH.1 (6 + (hoF σ k - 1)) (by omega)
    refine ⟨_, ?_, rfl⟩
    dsimp only [f_X9_opens_38, f_X9_opens_90, f_X9_opens_95, f_X9_opens_97]
    by_cases e1 : σ k = 2
    · by_cases e2 : hoF σ k = 0
      · have e3 : enO σ k = -4 := by unfold enO; rw [if_pos e2]
        have e4 : enO σ (k + 1) = nI k := by
          unfold enO
          rw [show hoF σ (k + 1) = k + 1 by rw [hoF, if_pos ⟨e1, Or.inl e2⟩], if_neg (by omega), Nat.add_sub_cancel]
        rw [e3, e4]
        simp (disch := omega) only [zl0, zl1, zl2, zl3, zl4, zl5, zl6, zl7, zl8, zl9, zl10, zl11, zl12, zl13, zl17, zl18, zl19, zl20, zl21, zl22, zl23, zl24, zl25, zl26, zl27, zl28, zl29, zl31, zl32, zl40, zl42, zl44, zl48, zl50, zl57, zl58, zl59, zl60, zl65, zl97, zl98, zl99, zl100, zl103, zl104, zl108, zl119, zl126, zl200, zl203, zl255, zl999, zl9999, zl720, zl232, z_add, z_le, z_lt, z_eq, z_clamp, z_in, z_m4, z_m4n, z_m1n, z_b0, z_b1, m_up_eq, m_up_ne, m_upd_eq, m_upd_ne, bd_s, op_s2, Bool.false_eq_true, eq_self, if_true, if_false, if_pos, if_neg, a0, c0, c6]
      · have e3 : enO σ k = nI (hoF σ k - 1) := by unfold enO; rw [if_neg e2]
        by_cases e5 : σ (6 + (hoF σ k - 1)) < σ (6 + k)
        · have e4 : enO σ (k + 1) = nI k := by
            unfold enO
            rw [show hoF σ (k + 1) = k + 1 by rw [hoF, if_pos ⟨e1, Or.inr e5⟩], if_neg (by omega), Nat.add_sub_cancel]
          rw [e3, e4]
          simp (disch := omega) only [zl0, zl1, zl2, zl3, zl4, zl5, zl6, zl7, zl8, zl9, zl10, zl11, zl12, zl13, zl17, zl18, zl19, zl20, zl21, zl22, zl23, zl24, zl25, zl26, zl27, zl28, zl29, zl31, zl32, zl40, zl42, zl44, zl48, zl50, zl57, zl58, zl59, zl60, zl65, zl97, zl98, zl99, zl100, zl103, zl104, zl108, zl119, zl126, zl200, zl203, zl255, zl999, zl9999, zl720, zl232, z_add, z_le, z_lt, z_eq, z_clamp, z_in, z_m4, z_m4n, z_m1n, z_b0, z_b1, m_up_eq, m_up_ne, m_upd_eq, m_upd_ne, bd_s, op_s2, Bool.false_eq_true, eq_self, if_true, if_false, if_pos, if_neg, a0, c0, c6, c7]
        · have e4 : enO σ (k + 1) = nI (hoF σ k - 1) := by
            unfold enO
            rw [show hoF σ (k + 1) = hoF σ k by rw [hoF, if_neg (fun q => q.2.elim e2 e5)], if_neg e2]
          rw [e3, e4]
          simp (disch := omega) only [zl0, zl1, zl2, zl3, zl4, zl5, zl6, zl7, zl8, zl9, zl10, zl11, zl12, zl13, zl17, zl18, zl19, zl20, zl21, zl22, zl23, zl24, zl25, zl26, zl27, zl28, zl29, zl31, zl32, zl40, zl42, zl44, zl48, zl50, zl57, zl58, zl59, zl60, zl65, zl97, zl98, zl99, zl100, zl103, zl104, zl108, zl119, zl126, zl200, zl203, zl255, zl999, zl9999, zl720, zl232, z_add, z_le, z_lt, z_eq, z_clamp, z_in, z_m4, z_m4n, z_m1n, z_b0, z_b1, m_up_eq, m_up_ne, m_upd_eq, m_upd_ne, bd_s, op_s2, Bool.false_eq_true, eq_self, if_true, if_false, if_pos, if_neg, a0, c0, c6, c7]
    · have e4 : enO σ (k + 1) = enO σ k := by
        unfold enO
        rw [show hoF σ (k + 1) = hoF σ k by rw [hoF, if_neg (fun q => e1 q.1)]]
      rw [e4]
      simp (disch := omega) only [zl0, zl1, zl2, zl3, zl4, zl5, zl6, zl7, zl8, zl9, zl10, zl11, zl12, zl13, zl17, zl18, zl19, zl20, zl21, zl22, zl23, zl24, zl25, zl26, zl27, zl28, zl29, zl31, zl32, zl40, zl42, zl44, zl48, zl50, zl57, zl58, zl59, zl60, zl65, zl97, zl98, zl99, zl100, zl103, zl104, zl108, zl119, zl126, zl200, zl203, zl255, zl999, zl9999, zl720, zl232, z_add, z_le, z_lt, z_eq, z_clamp, z_in, z_m4, z_m4n, z_m1n, z_b0, z_b1, m_up_eq, m_up_ne, m_upd_eq, m_upd_ne, bd_s, op_s2, Bool.false_eq_true, eq_self, if_true, if_false, if_pos, if_neg, a0, c0, c6]) (by
    rintro s rfl
    have a0 := hR.1 0 (by omega)
    refine ⟨_, ?_, rfl⟩
    dsimp only [f_X9_opens_38]
    simp (disch := omega) only [zl0, zl1, zl2, zl3, zl4, zl5, zl6, zl7, zl8, zl9, zl10, zl11, zl12, zl13, zl17, zl18, zl19, zl20, zl21, zl22, zl23, zl24, zl25, zl26, zl27, zl28, zl29, zl31, zl32, zl40, zl42, zl44, zl48, zl50, zl57, zl58, zl59, zl60, zl65, zl97, zl98, zl99, zl100, zl103, zl104, zl108, zl119, zl126, zl200, zl203, zl255, zl999, zl9999, zl720, zl232, z_add, z_le, z_lt, z_eq, z_clamp, z_in, z_m4, z_m4n, z_m1n, z_b0, z_b1, m_up_eq, m_up_ne, m_upd_eq, m_upd_ne, bd_s, op_s2, Bool.false_eq_true, eq_self, if_true, if_false, if_pos, if_neg, a0])
  subst h2
  exact h1
theorem M_opens19 {p σ : Nat → Nat} {m : fm_M} (hp : PI p) (hR : RM p σ m) (hH : HI p σ) {w many : Nat} (hw : w < p 1) (hm : many < 10) : ∃ m', f_X9_opens_19 (nI w) (nI many) m = some (opb σ (p 0) many, m') ∧ RM p (begF (opF σ (p 0) many) w 3 0 0) m' ∧ FM m m' := by
  have hp0 := hp.2.2.1
  have hp1 := hp.2.2.2.2.1
  obtain ⟨x, h1, m', h2, h3, h4⟩ := it_go (body := fun (yy : fm_M × Int32 × Int32) => f_X9_opens_25 (nI w) (nI many) yy.1 yy.2.1 yy.2.2) (fun k s => ∃ m', s = (m', opb σ (p 0) k, nI k) ∧ RM p (opF σ (p 0) k) m' ∧ FM m m') (fun x => ∃ m', x = (m', opb σ (p 0) many, nI many) ∧ RM p (opF σ (p 0) many) m' ∧ FM m m') many (m, 0, 0) (by omega) ⟨m, rfl, hR, FM.rf m⟩ (by
    rintro k s hk ⟨m', rfl, hR', hF⟩
    left
    have hH' := HI_opF hp hH k
    have hl := (hoF_le (opF σ (p 0) k) (p 0)).1
    have hit := M_hot hp hR' hH' (nI w) (nI many) (opb σ (p 0) k) (nI k)
    by_cases e : hoF (opF σ (p 0) k) (p 0) = 0
    · refine ⟨(m', opb σ (p 0) (k + 1), nI (k + 1)), ?_, _, rfl, by rw [opF, opo, if_pos e]; exact hR', hF⟩
      dsimp only [f_X9_opens_25]
      rw [show ((0 : Int32)) = nI 0 from rfl] at *
      rw [if_neg (by rw [z_le (by omega) (by omega)]; omega), op_some hit]
      dsimp only [f_X9_opens_138]
      rw [opb, if_pos e]
      unfold enO
      rw [if_pos e, if_pos rfl]
      simp (disch := omega) only [zl0, zl1, zl2, zl3, zl4, zl5, zl6, zl7, zl8, zl9, zl10, zl11, zl12, zl13, zl17, zl18, zl19, zl20, zl21, zl22, zl23, zl24, zl25, zl26, zl27, zl28, zl29, zl31, zl32, zl40, zl42, zl44, zl48, zl50, zl57, zl58, zl59, zl60, zl65, zl97, zl98, zl99, zl100, zl103, zl104, zl108, zl119, zl126, zl200, zl203, zl255, zl999, zl9999, zl720, zl232, z_add, z_le, z_lt, z_eq, z_clamp, z_in, z_m4, z_m4n, z_m1n, z_b0, z_b1, m_up_eq, m_up_ne, m_upd_eq, m_upd_ne, bd_s, op_s2, Bool.false_eq_true, eq_self, if_true, if_false, if_pos, if_neg]
    · refine ⟨(fm_up (fm_up m' 4 (hoF (opF σ (p 0) k) (p 0) - 1) (nI 3)) 4 (6 + (hoF (opF σ (p 0) k) (p 0) - 1)) (nI 0), opb σ (p 0) (k + 1), nI (k + 1)), ?_, _, rfl, by rw [opF, opo, if_neg e]; exact (hR'.un _ _).un _ _, (hF.tr (FM.up _ _ _)).tr (FM.up _ _ _)⟩
      dsimp only [f_X9_opens_25]
      rw [show ((0 : Int32)) = nI 0 from rfl] at *
      rw [if_neg (by rw [z_le (by omega) (by omega)]; omega), op_some hit]
      dsimp only [f_X9_opens_138]
      rw [opb, if_neg e]
      unfold enO
      rw [if_neg e, if_neg (by rw [z_m4 (by omega)]; exact fun q => q)]
      simp (disch := omega) only [zl0, zl1, zl2, zl3, zl4, zl5, zl6, zl7, zl8, zl9, zl10, zl11, zl12, zl13, zl17, zl18, zl19, zl20, zl21, zl22, zl23, zl24, zl25, zl26, zl27, zl28, zl29, zl31, zl32, zl40, zl42, zl44, zl48, zl50, zl57, zl58, zl59, zl60, zl65, zl97, zl98, zl99, zl100, zl103, zl104, zl108, zl119, zl126, zl200, zl203, zl255, zl999, zl9999, zl720, zl232, z_add, z_le, z_lt, z_eq, z_clamp, z_in, z_m4, z_m4n, z_m1n, z_b0, z_b1, m_up_eq, m_up_ne, m_upd_eq, m_upd_ne, bd_s, op_s2, Bool.false_eq_true, eq_self, if_true, if_false, if_pos, if_neg]) (by
    rintro s ⟨m', rfl, hR', hF⟩
    refine ⟨_, ?_, m', rfl, hR', hF⟩
    dsimp only [f_X9_opens_25]
    simp (disch := omega) only [zl0, zl1, zl2, zl3, zl4, zl5, zl6, zl7, zl8, zl9, zl10, zl11, zl12, zl13, zl17, zl18, zl19, zl20, zl21, zl22, zl23, zl24, zl25, zl26, zl27, zl28, zl29, zl31, zl32, zl40, zl42, zl44, zl48, zl50, zl57, zl58, zl59, zl60, zl65, zl97, zl98, zl99, zl100, zl103, zl104, zl108, zl119, zl126, zl200, zl203, zl255, zl999, zl9999, zl720, zl232, z_add, z_le, z_lt, z_eq, z_clamp, z_in, z_m4, z_m4n, z_m1n, z_b0, z_b1, m_up_eq, m_up_ne, m_upd_eq, m_upd_ne, bd_s, op_s2, Bool.false_eq_true, eq_self, if_true, if_false, if_pos, if_neg])
  obtain ⟨m3, g1, g2, g3⟩ := M_begin (how := 3) (k := 0) (c := 0) h3 (show w < 3 by omega)
  refine ⟨m3, ?_, g2, h4.tr g3⟩
  subst h2
  unfold f_X9_opens_19
  rw [show ((0 : Int32)) = nI 0 from rfl] at *
  rw [op_some h1]
  dsimp only
  rw [bd_some (show f_X9_begin (nI w) (3 : Int32) (nI 0) (nI 0) m' = _ from g1)]
theorem M_opens {p σ : Nat → Nat} {m : fm_M} (hp : PI p) (hR : RM p σ m) (hH : HI p σ) {w : Nat} (hw : w < p 1) : ∃ m', f_X9_opens (nI w) m = some (opnB p σ, m') ∧ RM p (opnF p σ w) m' ∧ FM m m' := by
  have hp3 := hp.2.2.2.2.2.2.2.2.1
  have hp1 := hp.2.2.2.2.1
  have a3 := hR.1 3 (by omega)
  have hl := hc_le σ 18 3 (p 1)
  unfold f_X9_opens opnF opnB opM
  rw [bd_some (M_notOut hp hR hH)]
  by_cases e : p 1 - hc σ 18 3 (p 1) = 1
  · rw [if_pos e]
    obtain ⟨m', h1, h2, h3⟩ := M_opens19 hp hR hH hw (many := 6) (by omega)
    refine ⟨m', ?_, h2, h3⟩
    simp (disch := omega) only [zl0, zl1, zl2, zl3, zl4, zl5, zl6, zl7, zl8, zl9, zl10, zl11, zl12, zl13, zl17, zl18, zl19, zl20, zl21, zl22, zl23, zl24, zl25, zl26, zl27, zl28, zl29, zl31, zl32, zl40, zl42, zl44, zl48, zl50, zl57, zl58, zl59, zl60, zl65, zl97, zl98, zl99, zl100, zl103, zl104, zl108, zl119, zl126, zl200, zl203, zl255, zl999, zl9999, zl720, zl232, z_add, z_le, z_lt, z_eq, z_clamp, z_in, z_m4, z_m4n, z_m1n, z_b0, z_b1, m_up_eq, m_up_ne, m_upd_eq, m_upd_ne, bd_s, op_s2, Bool.false_eq_true, eq_self, if_true, if_false, if_pos, if_neg]
    exact h1
  · rw [if_neg e]
    obtain ⟨m', h1, h2, h3⟩ := M_opens19 hp hR hH hw (many := p 3) (by omega)
    refine ⟨m', ?_, h2, h3⟩
    simp (disch := omega) only [zl0, zl1, zl2, zl3, zl4, zl5, zl6, zl7, zl8, zl9, zl10, zl11, zl12, zl13, zl17, zl18, zl19, zl20, zl21, zl22, zl23, zl24, zl25, zl26, zl27, zl28, zl29, zl31, zl32, zl40, zl42, zl44, zl48, zl50, zl57, zl58, zl59, zl60, zl65, zl97, zl98, zl99, zl100, zl103, zl104, zl108, zl119, zl126, zl200, zl203, zl255, zl999, zl9999, zl720, zl232, z_add, z_le, z_lt, z_eq, z_clamp, z_in, z_m4, z_m4n, z_m1n, z_b0, z_b1, m_up_eq, m_up_ne, m_upd_eq, m_upd_ne, bd_s, op_s2, Bool.false_eq_true, eq_self, if_true, if_false, if_pos, if_neg, a3]
    exact h1
theorem M_mayOpen {p σ : Nat → Nat} {m : fm_M} (hp : PI p) (hR : RM p σ m) (hH : HI p σ) : f_X9_mayOpen m = some (bI (decide (mayF p σ)), m) := by
  have hp0 := hp.2.2.1
  have hp1 := hp.2.2.2.2.1
  have hp3 := hp.2.2.2.2.2.2.2.2.1
  have a3 := hR.1 3 (by omega)
  have a0 := hR.1 0 (by omega)
  have l1 := hc_le σ 0 2 (p 0)
  have l2 := hc_le σ 0 3 (p 0)
  have l3 := hc_le σ 18 3 (p 1)
  have l4 := (highF_spec σ (p 1)).1
  have c2 : f_X9_children (2 : Int32) m = some (nI (hc σ 0 2 (p 0)), m) := M_children hp hR hH 2 (by omega)
  have c3 : f_X9_children (3 : Int32) m = some (nI (hc σ 0 3 (p 0)), m) := M_children hp hR hH 3 (by omega)
  have key : ∀ a b : Nat, a ≤ 1 → b ≤ 1 → f_X9_mayOpen_55 (nI a) (nI b) m = some (bI (decide (0 < highF σ (p 1) ∧ (a = 1 ∨ b = 1))), m) := by
    intro a b ha hb
    unfold f_X9_mayOpen_55 f_X9_mayOpen_77 f_X9_mayOpen_73 f_X9_mayOpen_78
    rw [bd_some (M_highestFree hp hR hH)]
    unfold enH
    by_cases e : 0 < highF σ (p 1)
    · rw [if_pos e, if_neg (by rw [z_m4 (by omega)]; exact fun q => q)]
      by_cases e1 : a = 1
      · rw [decide_eq_true ⟨e, Or.inl e1⟩]
        simp (disch := omega) only [zl0, zl1, zl2, zl3, zl4, zl5, zl6, zl7, zl8, zl9, zl10, zl11, zl12, zl13, zl17, zl18, zl19, zl20, zl21, zl22, zl23, zl24, zl25, zl26, zl27, zl28, zl29, zl31, zl32, zl40, zl42, zl44, zl48, zl50, zl57, zl58, zl59, zl60, zl65, zl97, zl98, zl99, zl100, zl103, zl104, zl108, zl119, zl126, zl200, zl203, zl255, zl999, zl9999, zl720, zl232, z_add, z_le, z_lt, z_eq, z_clamp, z_in, z_m4, z_m4n, z_m1n, z_b0, z_b1, m_up_eq, m_up_ne, m_upd_eq, m_upd_ne, bd_s, op_s2, Bool.false_eq_true, eq_self, if_true, if_false, if_pos, if_neg, bI]
      · by_cases e2 : b = 1
        · rw [decide_eq_true ⟨e, Or.inr e2⟩]
          simp (disch := omega) only [zl0, zl1, zl2, zl3, zl4, zl5, zl6, zl7, zl8, zl9, zl10, zl11, zl12, zl13, zl17, zl18, zl19, zl20, zl21, zl22, zl23, zl24, zl25, zl26, zl27, zl28, zl29, zl31, zl32, zl40, zl42, zl44, zl48, zl50, zl57, zl58, zl59, zl60, zl65, zl97, zl98, zl99, zl100, zl103, zl104, zl108, zl119, zl126, zl200, zl203, zl255, zl999, zl9999, zl720, zl232, z_add, z_le, z_lt, z_eq, z_clamp, z_in, z_m4, z_m4n, z_m1n, z_b0, z_b1, m_up_eq, m_up_ne, m_upd_eq, m_upd_ne, bd_s, op_s2, Bool.false_eq_true, eq_self, if_true, if_false, if_pos, if_neg, bI]
        · rw [decide_eq_false (fun q => q.2.elim e1 e2)]
          simp (disch := omega) only [zl0, zl1, zl2, zl3, zl4, zl5, zl6, zl7, zl8, zl9, zl10, zl11, zl12, zl13, zl17, zl18, zl19, zl20, zl21, zl22, zl23, zl24, zl25, zl26, zl27, zl28, zl29, zl31, zl32, zl40, zl42, zl44, zl48, zl50, zl57, zl58, zl59, zl60, zl65, zl97, zl98, zl99, zl100, zl103, zl104, zl108, zl119, zl126, zl200, zl203, zl255, zl999, zl9999, zl720, zl232, z_add, z_le, z_lt, z_eq, z_clamp, z_in, z_m4, z_m4n, z_m1n, z_b0, z_b1, m_up_eq, m_up_ne, m_upd_eq, m_upd_ne, bd_s, op_s2, Bool.false_eq_true, eq_self, if_true, if_false, if_pos, if_neg, bI]
    · rw [if_neg e, if_pos rfl, decide_eq_false (fun q => e q.1)]
      rfl
  have key2 : ∀ a : Nat, a ≤ 1 → f_X9_mayOpen_29 (nI (hc σ 0 2 (p 0))) (nI a) m = some (bI (decide (0 < highF σ (p 1) ∧ (a = 1 ∨ (0 < hc σ 0 2 (p 0) ∧ hc σ 0 2 (p 0) + hc σ 0 3 (p 0) = p 0)))), m) := by
    intro a ha
    have k0 := key a 0 ha (by omega)
    have k1 := key a 1 ha (by omega)
    have c3' : f_X9_children (nI 3) m = some (nI (hc σ 0 3 (p 0)), m) := c3
    unfold f_X9_mayOpen_29 f_X9_mayOpen_54
    by_cases e1 : hc σ 0 2 (p 0) ≤ 0
    · simp (disch := omega) only [zl0, zl1, zl2, zl3, zl4, zl5, zl6, zl7, zl8, zl9, zl10, zl11, zl12, zl13, zl17, zl18, zl19, zl20, zl21, zl22, zl23, zl24, zl25, zl26, zl27, zl28, zl29, zl31, zl32, zl40, zl42, zl44, zl48, zl50, zl57, zl58, zl59, zl60, zl65, zl97, zl98, zl99, zl100, zl103, zl104, zl108, zl119, zl126, zl200, zl203, zl255, zl999, zl9999, zl720, zl232, z_add, z_le, z_lt, z_eq, z_clamp, z_in, z_m4, z_m4n, z_m1n, z_b0, z_b1, m_up_eq, m_up_ne, m_upd_eq, m_upd_ne, bd_s, op_s2, Bool.false_eq_true, eq_self, if_true, if_false, if_pos, if_neg, k0]
      congr 3
      apply decide_eq_decide.mpr
      constructor <;> (rintro ⟨q1, q2⟩; refine ⟨q1, ?_⟩; first | omega | (simp; done) | (simp; omega))
    · by_cases e2 : hc σ 0 2 (p 0) + hc σ 0 3 (p 0) = p 0
      · simp (disch := omega) only [zl0, zl1, zl2, zl3, zl4, zl5, zl6, zl7, zl8, zl9, zl10, zl11, zl12, zl13, zl17, zl18, zl19, zl20, zl21, zl22, zl23, zl24, zl25, zl26, zl27, zl28, zl29, zl31, zl32, zl40, zl42, zl44, zl48, zl50, zl57, zl58, zl59, zl60, zl65, zl97, zl98, zl99, zl100, zl103, zl104, zl108, zl119, zl126, zl200, zl203, zl255, zl999, zl9999, zl720, zl232, z_add, z_le, z_lt, z_eq, z_clamp, z_in, z_m4, z_m4n, z_m1n, z_b0, z_b1, m_up_eq, m_up_ne, m_upd_eq, m_upd_ne, bd_s, op_s2, Bool.false_eq_true, eq_self, if_true, if_false, if_pos, if_neg, c3', a0, k1]
        congr 3
        apply decide_eq_decide.mpr
        constructor <;> (rintro ⟨q1, q2⟩; refine ⟨q1, ?_⟩; first | omega | (simp; done) | (simp; omega))
      · simp (disch := omega) only [zl0, zl1, zl2, zl3, zl4, zl5, zl6, zl7, zl8, zl9, zl10, zl11, zl12, zl13, zl17, zl18, zl19, zl20, zl21, zl22, zl23, zl24, zl25, zl26, zl27, zl28, zl29, zl31, zl32, zl40, zl42, zl44, zl48, zl50, zl57, zl58, zl59, zl60, zl65, zl97, zl98, zl99, zl100, zl103, zl104, zl108, zl119, zl126, zl200, zl203, zl255, zl999, zl9999, zl720, zl232, z_add, z_le, z_lt, z_eq, z_clamp, z_in, z_m4, z_m4n, z_m1n, z_b0, z_b1, m_up_eq, m_up_ne, m_upd_eq, m_upd_ne, bd_s, op_s2, Bool.false_eq_true, eq_self, if_true, if_false, if_pos, if_neg, c3', a0, k0]
        congr 3
        apply decide_eq_decide.mpr
        constructor <;> (rintro ⟨q1, q2⟩; refine ⟨q1, ?_⟩; first | omega | (simp; done) | (simp; omega))
  have k0 := key2 0 (by omega)
  have k1 := key2 1 (by omega)
  have c2' : f_X9_children (nI 2) m = some (nI (hc σ 0 2 (p 0)), m) := c2
  have n1 := M_notOut hp hR hH
  unfold f_X9_mayOpen f_X9_mayOpen_28
  by_cases e1 : hc σ 0 2 (p 0) < p 3
  · simp (disch := omega) only [zl0, zl1, zl2, zl3, zl4, zl5, zl6, zl7, zl8, zl9, zl10, zl11, zl12, zl13, zl17, zl18, zl19, zl20, zl21, zl22, zl23, zl24, zl25, zl26, zl27, zl28, zl29, zl31, zl32, zl40, zl42, zl44, zl48, zl50, zl57, zl58, zl59, zl60, zl65, zl97, zl98, zl99, zl100, zl103, zl104, zl108, zl119, zl126, zl200, zl203, zl255, zl999, zl9999, zl720, zl232, z_add, z_le, z_lt, z_eq, z_clamp, z_in, z_m4, z_m4n, z_m1n, z_b0, z_b1, m_up_eq, m_up_ne, m_upd_eq, m_upd_ne, bd_s, op_s2, Bool.false_eq_true, eq_self, if_true, if_false, if_pos, if_neg, a3, c2', k0]
    congr 3
    apply decide_eq_decide.mpr
    constructor <;> (rintro ⟨q1, q2⟩; refine ⟨q1, ?_⟩; first | omega | (simp; done) | (simp; omega))
  · by_cases e2 : p 1 - hc σ 18 3 (p 1) ≤ 1
    · simp (disch := omega) only [zl0, zl1, zl2, zl3, zl4, zl5, zl6, zl7, zl8, zl9, zl10, zl11, zl12, zl13, zl17, zl18, zl19, zl20, zl21, zl22, zl23, zl24, zl25, zl26, zl27, zl28, zl29, zl31, zl32, zl40, zl42, zl44, zl48, zl50, zl57, zl58, zl59, zl60, zl65, zl97, zl98, zl99, zl100, zl103, zl104, zl108, zl119, zl126, zl200, zl203, zl255, zl999, zl9999, zl720, zl232, z_add, z_le, z_lt, z_eq, z_clamp, z_in, z_m4, z_m4n, z_m1n, z_b0, z_b1, m_up_eq, m_up_ne, m_upd_eq, m_upd_ne, bd_s, op_s2, Bool.false_eq_true, eq_self, if_true, if_false, if_pos, if_neg, a3, c2', n1, k0]
      congr 3
      apply decide_eq_decide.mpr
      constructor <;> (rintro ⟨q1, q2⟩; refine ⟨q1, ?_⟩; first | omega | (simp; done) | (simp; omega))
    · simp (disch := omega) only [zl0, zl1, zl2, zl3, zl4, zl5, zl6, zl7, zl8, zl9, zl10, zl11, zl12, zl13, zl17, zl18, zl19, zl20, zl21, zl22, zl23, zl24, zl25, zl26, zl27, zl28, zl29, zl31, zl32, zl40, zl42, zl44, zl48, zl50, zl57, zl58, zl59, zl60, zl65, zl97, zl98, zl99, zl100, zl103, zl104, zl108, zl119, zl126, zl200, zl203, zl255, zl999, zl9999, zl720, zl232, z_add, z_le, z_lt, z_eq, z_clamp, z_in, z_m4, z_m4n, z_m1n, z_b0, z_b1, m_up_eq, m_up_ne, m_upd_eq, m_upd_ne, bd_s, op_s2, Bool.false_eq_true, eq_self, if_true, if_false, if_pos, if_neg, a3, c2', n1, k1]
      congr 3
      apply decide_eq_decide.mpr
      constructor <;> (rintro ⟨q1, q2⟩; refine ⟨q1, ?_⟩; first | omega | (simp; done) | (simp; omega))
/-- the reference's row array holds ρ -/
def RR (p ρ : Nat → Nat) (m : fm_M) : Prop := ∀ k, k < p 0 → m 9 k = nI (ρ k)
theorem RR.fm {p ρ : Nat → Nat} {m m' : fm_M} (h : RR p ρ m) (hF : FM m m') : RR p ρ m' := fun k hk => by rw [hF 9 (by omega)]; exact h k hk
theorem M_first {p σ ρ : Nat → Nat} {m : fm_M} (hp : PI p) (hR : RM p σ m) (hH : HI p σ) (hρ : RO p ρ) (hm : RR p ρ m) (v : Int32) : fm_it (fun (yy : fm_M × Int32 × Int32) => f_X9_takesRow_24 v yy.1 yy.2.1 yy.2.2) fm_fu (m, -4, nI (p 0) - nI 1) = some (m, if fbF σ ρ (p 0) < p 0 then nI (ρ (fbF σ ρ (p 0))) else -4, nI 0 - nI 1) := by
  have hp0 := hp.2.2.1
  obtain ⟨x, h1, h2⟩ := it_go (body := fun (yy : fm_M × Int32 × Int32) => f_X9_takesRow_24 v yy.1 yy.2.1 yy.2.2) (fun k s => ∃ r : Int32, s = (m, r, nI (p 0 - k) - nI 1) ∧ ((∃ w, p 0 - k ≤ w ∧ w < p 0 ∧ σ (ρ w) = 0 ∧ (∀ v, p 0 - k ≤ v → v < w → ¬ σ (ρ v) = 0) ∧ r = nI (ρ w)) ∨ ((∀ v, p 0 - k ≤ v → v < p 0 → ¬ σ (ρ v) = 0) ∧ r = -4))) (fun x => ∃ r : Int32, x = (m, r, nI 0 - nI 1) ∧ ((∃ w, w < p 0 ∧ σ (ρ w) = 0 ∧ (∀ v, v < w → ¬ σ (ρ v) = 0) ∧ r = nI (ρ w)) ∨ ((∀ v, v < p 0 → ¬ σ (ρ v) = 0) ∧ r = -4))) (p 0) (m, -4, nI (p 0) - nI 1) (by omega) ⟨-4, rfl, Or.inr ⟨fun v a b => by omega, rfl⟩⟩ (by
    rintro k s hk ⟨r, rfl, hr⟩
    left
    have hq := hρ (p 0 - k - 1) (by omega)
    have h9 := hm (p 0 - k - 1) (by omega)
    have hs := hR.2 (ρ (p 0 - k - 1)) (by omega)
    have hb1 := hH.1 (ρ (p 0 - k - 1)) (by omega)
    have e2 : nI (p 0 - (k + 1)) - nI 1 = nI (p 0 - k - 1) + (-1) := by rw [z_addm1, show p 0 - (k + 1) = p 0 - k - 1 by omega]
    by_cases e : σ (ρ (p 0 - k - 1)) = 0
    · refine ⟨(m, nI (ρ (p 0 - k - 1)), nI (p 0 - (k + 1)) - nI 1), ?_, _, rfl, Or.inl ⟨p 0 - k - 1, by omega, by omega, e, fun v a b => by omega, rfl⟩⟩
      dsimp only [f_X9_takesRow_24, f_X9_takesRow_52]
      rw [e2]
      simp (disch := omega) only [zl0, zl1, zl2, zl3, zl4, zl5, zl6, zl7, zl8, zl9, zl10, zl11, zl12, zl13, zl17, zl18, zl19, zl20, zl21, zl22, zl23, zl24, zl25, zl26, zl27, zl28, zl29, zl31, zl32, zl40, zl42, zl44, zl48, zl50, zl57, zl58, zl59, zl60, zl65, zl97, zl98, zl99, zl100, zl103, zl104, zl108, zl119, zl126, zl200, zl203, zl255, zl999, zl9999, zl720, zl232, z_add, z_le, z_lt, z_eq, z_clamp, z_in, z_m4, z_m4n, z_m1n, z_b0, z_b1, m_up_eq, m_up_ne, m_upd_eq, m_upd_ne, bd_s, op_s2, Bool.false_eq_true, eq_self, if_true, if_false, if_pos, if_neg, h9, hs, z_sub]
    · refine ⟨(m, r, nI (p 0 - (k + 1)) - nI 1), ?_, _, rfl, ?_⟩
      · dsimp only [f_X9_takesRow_24, f_X9_takesRow_52]
        rw [e2]
        simp (disch := omega) only [zl0, zl1, zl2, zl3, zl4, zl5, zl6, zl7, zl8, zl9, zl10, zl11, zl12, zl13, zl17, zl18, zl19, zl20, zl21, zl22, zl23, zl24, zl25, zl26, zl27, zl28, zl29, zl31, zl32, zl40, zl42, zl44, zl48, zl50, zl57, zl58, zl59, zl60, zl65, zl97, zl98, zl99, zl100, zl103, zl104, zl108, zl119, zl126, zl200, zl203, zl255, zl999, zl9999, zl720, zl232, z_add, z_le, z_lt, z_eq, z_clamp, z_in, z_m4, z_m4n, z_m1n, z_b0, z_b1, m_up_eq, m_up_ne, m_upd_eq, m_upd_ne, bd_s, op_s2, Bool.false_eq_true, eq_self, if_true, if_false, if_pos, if_neg, h9, hs, z_sub]
      · rcases hr with ⟨w, a1, a2, a3, a4, a5⟩ | ⟨a1, a2⟩
        · refine Or.inl ⟨w, by omega, a2, a3, fun v b1 b2 => ?_, a5⟩
          rcases (show p 0 - k ≤ v ∨ v = p 0 - k - 1 by omega) with q | q
          · exact a4 v q b2
          · subst q; exact e
        · refine Or.inr ⟨fun v b1 b2 => ?_, a2⟩
          rcases (show p 0 - k ≤ v ∨ v = p 0 - k - 1 by omega) with q | q
          · exact a1 v q b2
          · subst q; exact e) (by
    rintro s ⟨r, rfl, hr⟩
    rw [Nat.sub_self] at *
    refine ⟨_, ?_, r, rfl, ?_⟩
    · dsimp only [f_X9_takesRow_24]
      rw [if_pos (by decide)]
    · rcases hr with ⟨w, a1, a2, a3, a4, a5⟩ | ⟨a1, a2⟩
      · exact Or.inl ⟨w, a2, a3, fun v b => a4 v (by omega) b, a5⟩
      · exact Or.inr ⟨fun v b => a1 v (by omega) b, a2⟩)
  obtain ⟨r, rfl, hr⟩ := h2
  rw [h1]
  rcases hr with ⟨w, a2, a3, a4, a5⟩ | ⟨a1, a2⟩
  · rw [fbF_one a2 a3 a4, if_pos a2, a5]
  · rw [fbF_no a1, if_neg (by omega), a2]
theorem M_takesRow {p σ ρ : Nat → Nat} {m : fm_M} (hp : PI p) (hR : RM p σ m) (hH : HI p σ) (hρ : RO p ρ) (hm : RR p ρ m) : ∃ m', f_X9_takesRow m = some (0, m') ∧ RM p (trF p ρ σ (p 1)) m' ∧ FM m m' := by
  have hp0 := hp.2.2.1
  have hp1 := hp.2.2.2.2.1
  obtain ⟨x, h1, m', h2, h3, h4⟩ := it_go (body := fun (yy : fm_M × Int32) => f_X9_takesRow_2 yy.1 yy.2) (fun k s => ∃ m', s = (m', nI k) ∧ RM p (trF p ρ σ k) m' ∧ FM m m') (fun x => ∃ m', x = (m', nI (p 1)) ∧ RM p (trF p ρ σ (p 1)) m' ∧ FM m m') (p 1) (m, 0) (by omega) ⟨m, rfl, hR, FM.rf m⟩ (by
    rintro k s hk ⟨m', rfl, hR', hF⟩
    left
    obtain ⟨hH', -⟩ := HI_tr hp hρ hH k (by omega)
    have a0 := hR'.1 0 (by omega)
    have a1 := hR'.1 1 (by omega)
    have c18 := hR'.2 (18 + k) (by omega)
    have d18 := hH'.1 (18 + k) (by omega)
    have hit := M_first hp hR' hH' hρ (hm.fm hF) (nI k)
    by_cases e1 : trF p ρ σ k (18 + k) = 0 ∧ fbF (trF p ρ σ k) ρ (p 0) < p 0
    · have hq := hρ _ e1.2
      obtain ⟨m3, g1, g2, g3⟩ := M_dresses hp hR' hH' hk hq
      refine ⟨(m3, nI (k + 1)), ?_, _, rfl, by rw [trF, if_pos e1]; exact g2, hF.tr g3⟩
      rw [if_pos e1.2] at hit
      dsimp only [f_X9_takesRow_2, f_X9_takesRow_83]
      have e2 := e1.1
      simp (disch := omega) only [zl0, zl1, zl2, zl3, zl4, zl5, zl6, zl7, zl8, zl9, zl10, zl11, zl12, zl13, zl17, zl18, zl19, zl20, zl21, zl22, zl23, zl24, zl25, zl26, zl27, zl28, zl29, zl31, zl32, zl40, zl42, zl44, zl48, zl50, zl57, zl58, zl59, zl60, zl65, zl97, zl98, zl99, zl100, zl103, zl104, zl108, zl119, zl126, zl200, zl203, zl255, zl999, zl9999, zl720, zl232, z_add, z_le, z_lt, z_eq, z_clamp, z_in, z_m4, z_m4n, z_m1n, z_b0, z_b1, m_up_eq, m_up_ne, m_upd_eq, m_upd_ne, bd_s, op_s2, Bool.false_eq_true, eq_self, if_true, if_false, if_pos, if_neg, a0, a1]
      rw [show (-nI 4) = (-4 : Int32) from rfl, op_some hit]
      simp (disch := omega) only [zl0, zl1, zl2, zl3, zl4, zl5, zl6, zl7, zl8, zl9, zl10, zl11, zl12, zl13, zl17, zl18, zl19, zl20, zl21, zl22, zl23, zl24, zl25, zl26, zl27, zl28, zl29, zl31, zl32, zl40, zl42, zl44, zl48, zl50, zl57, zl58, zl59, zl60, zl65, zl97, zl98, zl99, zl100, zl103, zl104, zl108, zl119, zl126, zl200, zl203, zl255, zl999, zl9999, zl720, zl232, z_add, z_le, z_lt, z_eq, z_clamp, z_in, z_m4, z_m4n, z_m1n, z_b0, z_b1, m_up_eq, m_up_ne, m_upd_eq, m_upd_ne, bd_s, op_s2, Bool.false_eq_true, eq_self, if_true, if_false, if_pos, if_neg, c18, g1]
    · refine ⟨(m', nI (k + 1)), ?_, _, rfl, by rw [trF, if_neg e1]; exact hR', hF⟩
      dsimp only [f_X9_takesRow_2, f_X9_takesRow_83]
      simp (disch := omega) only [zl0, zl1, zl2, zl3, zl4, zl5, zl6, zl7, zl8, zl9, zl10, zl11, zl12, zl13, zl17, zl18, zl19, zl20, zl21, zl22, zl23, zl24, zl25, zl26, zl27, zl28, zl29, zl31, zl32, zl40, zl42, zl44, zl48, zl50, zl57, zl58, zl59, zl60, zl65, zl97, zl98, zl99, zl100, zl103, zl104, zl108, zl119, zl126, zl200, zl203, zl255, zl999, zl9999, zl720, zl232, z_add, z_le, z_lt, z_eq, z_clamp, z_in, z_m4, z_m4n, z_m1n, z_b0, z_b1, m_up_eq, m_up_ne, m_upd_eq, m_upd_ne, bd_s, op_s2, Bool.false_eq_true, eq_self, if_true, if_false, if_pos, if_neg, a0, a1]
      rw [show (-nI 4) = (-4 : Int32) from rfl, op_some hit]
      by_cases e2 : trF p ρ σ k (18 + k) = 0
      · have e3 : ¬ fbF (trF p ρ σ k) ρ (p 0) < p 0 := fun q => e1 ⟨e2, q⟩
        simp (disch := omega) only [zl0, zl1, zl2, zl3, zl4, zl5, zl6, zl7, zl8, zl9, zl10, zl11, zl12, zl13, zl17, zl18, zl19, zl20, zl21, zl22, zl23, zl24, zl25, zl26, zl27, zl28, zl29, zl31, zl32, zl40, zl42, zl44, zl48, zl50, zl57, zl58, zl59, zl60, zl65, zl97, zl98, zl99, zl100, zl103, zl104, zl108, zl119, zl126, zl200, zl203, zl255, zl999, zl9999, zl720, zl232, z_add, z_le, z_lt, z_eq, z_clamp, z_in, z_m4, z_m4n, z_m1n, z_b0, z_b1, m_up_eq, m_up_ne, m_upd_eq, m_upd_ne, bd_s, op_s2, Bool.false_eq_true, eq_self, if_true, if_false, if_pos, if_neg, c18]
      · simp (disch := omega) only [zl0, zl1, zl2, zl3, zl4, zl5, zl6, zl7, zl8, zl9, zl10, zl11, zl12, zl13, zl17, zl18, zl19, zl20, zl21, zl22, zl23, zl24, zl25, zl26, zl27, zl28, zl29, zl31, zl32, zl40, zl42, zl44, zl48, zl50, zl57, zl58, zl59, zl60, zl65, zl97, zl98, zl99, zl100, zl103, zl104, zl108, zl119, zl126, zl200, zl203, zl255, zl999, zl9999, zl720, zl232, z_add, z_le, z_lt, z_eq, z_clamp, z_in, z_m4, z_m4n, z_m1n, z_b0, z_b1, m_up_eq, m_up_ne, m_upd_eq, m_upd_ne, bd_s, op_s2, Bool.false_eq_true, eq_self, if_true, if_false, if_pos, if_neg, c18]) (by
    rintro s ⟨m', rfl, hR', hF⟩
    have a1 := hR'.1 1 (by omega)
    refine ⟨_, ?_, m', rfl, hR', hF⟩
    dsimp only [f_X9_takesRow_2]
    simp (disch := omega) only [zl0, zl1, zl2, zl3, zl4, zl5, zl6, zl7, zl8, zl9, zl10, zl11, zl12, zl13, zl17, zl18, zl19, zl20, zl21, zl22, zl23, zl24, zl25, zl26, zl27, zl28, zl29, zl31, zl32, zl40, zl42, zl44, zl48, zl50, zl57, zl58, zl59, zl60, zl65, zl97, zl98, zl99, zl100, zl103, zl104, zl108, zl119, zl126, zl200, zl203, zl255, zl999, zl9999, zl720, zl232, z_add, z_le, z_lt, z_eq, z_clamp, z_in, z_m4, z_m4n, z_m1n, z_b0, z_b1, m_up_eq, m_up_ne, m_upd_eq, m_upd_ne, bd_s, op_s2, Bool.false_eq_true, eq_self, if_true, if_false, if_pos, if_neg, a1])
  refine ⟨m', ?_, h3, h4⟩
  subst h2
  unfold f_X9_takesRow
  rw [op_some h1]
