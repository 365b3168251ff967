/-! the reference: free women, who has one, laying out, dressing, a minute -/
theorem M_lowestFree {p σ : Nat → Nat} {m : fm_M} (hp : PI p) (hR : RM p σ m) (hH : HI p σ) : f_X9_lowestFree m = some (enL σ (p 1), m) := by
  have h0 := hR.1 1 (by omega)
  have hp1 := hp.2.2.2.1
  have hp2 := hp.2.2.2.2.1
  obtain ⟨x, h1, h2⟩ := it_go (body := fun (yy : fm_M × Int32 × Int32) => f_X9_lowestFree_12 yy.1 yy.2.1 yy.2.2) (fun k s => ∃ r : Int32, s = (m, r, nI (p 1 - k) - nI 1) ∧ ((∃ w, p 1 - k ≤ w ∧ w < p 1 ∧ σ (18 + w) = 0 ∧ (∀ v, p 1 - k ≤ v → v < w → ¬ σ (18 + v) = 0) ∧ r = nI w) ∨ ((∀ v, p 1 - k ≤ v → v < p 1 → ¬ σ (18 + v) = 0) ∧ r = -4))) (fun x => ∃ r : Int32, x = (m, r, nI 0 - nI 1) ∧ ((∃ w, w < p 1 ∧ σ (18 + w) = 0 ∧ (∀ v, v < w → ¬ σ (18 + v) = 0) ∧ r = nI w) ∨ ((∀ v, v < p 1 → ¬ σ (18 + v) = 0) ∧ r = -4))) (p 1) (m, -4, nI (p 1) - nI 1) (by omega) ⟨-4, rfl, Or.inr ⟨fun v a b => by omega, rfl⟩⟩ (by
    rintro k s hk ⟨r, rfl, hr⟩
    left
    have hs := hR.2 (18 + (p 1 - k - 1)) (by omega)
    have hb1 := hH.1 (18 + (p 1 - k - 1)) (by omega)
    have e2 : nI (p 1 - (k + 1)) - nI 1 = nI (p 1 - k - 1) + (-1) := by rw [z_addm1, show p 1 - (k + 1) = p 1 - k - 1 by omega]
    by_cases e : σ (18 + (p 1 - k - 1)) = 0
    · refine ⟨(m, nI (p 1 - k - 1), nI (p 1 - (k + 1)) - nI 1), ?_, _, rfl, Or.inl ⟨p 1 - k - 1, by omega, by omega, e, fun v a b => by omega, rfl⟩⟩
      dsimp only [f_X9_lowestFree_12, f_X9_lowestFree_33]
      rw [e2]
      simp (disch := omega) only [zl0, zl1, zl2, zl3, zl4, zl5, zl6, zl7, zl8, zl9, zl10, zl11, zl12, zl13, zl17, zl18, zl19, zl20, zl21, zl22, zl23, zl24, zl25, zl26, zl27, zl28, zl29, zl31, zl32, zl40, zl42, zl44, zl48, zl50, zl57, zl58, zl59, zl60, zl65, zl97, zl98, zl99, zl100, zl103, zl104, zl108, zl119, zl126, zl200, zl203, zl255, zl999, zl9999, zl720, zl232, z_add, z_le, z_lt, z_eq, z_clamp, z_in, z_m4, z_m4n, z_m1n, z_b0, z_b1, m_up_eq, m_up_ne, m_upd_eq, m_upd_ne, bd_s, op_s2, Bool.false_eq_true, eq_self, if_true, if_false, if_pos, if_neg, hs, z_sub]
    · refine ⟨(m, r, nI (p 1 - (k + 1)) - nI 1), ?_, _, rfl, ?_⟩
      · dsimp only [f_X9_lowestFree_12, f_X9_lowestFree_33]
        rw [e2]
        simp (disch := omega) only [zl0, zl1, zl2, zl3, zl4, zl5, zl6, zl7, zl8, zl9, zl10, zl11, zl12, zl13, zl17, zl18, zl19, zl20, zl21, zl22, zl23, zl24, zl25, zl26, zl27, zl28, zl29, zl31, zl32, zl40, zl42, zl44, zl48, zl50, zl57, zl58, zl59, zl60, zl65, zl97, zl98, zl99, zl100, zl103, zl104, zl108, zl119, zl126, zl200, zl203, zl255, zl999, zl9999, zl720, zl232, z_add, z_le, z_lt, z_eq, z_clamp, z_in, z_m4, z_m4n, z_m1n, z_b0, z_b1, m_up_eq, m_up_ne, m_upd_eq, m_upd_ne, bd_s, op_s2, Bool.false_eq_true, eq_self, if_true, if_false, if_pos, if_neg, hs, z_sub]
      · rcases hr with ⟨w, a1, a2, a3, a4, a5⟩ | ⟨a1, a2⟩
        · refine Or.inl ⟨w, by omega, a2, a3, fun v b1 b2 => ?_, a5⟩
          rcases (show p 1 - k ≤ v ∨ v = p 1 - k - 1 by omega) with q | q
          · exact a4 v q b2
          · subst q; exact e
        · refine Or.inr ⟨fun v b1 b2 => ?_, a2⟩
          rcases (show p 1 - k ≤ v ∨ v = p 1 - k - 1 by omega) with q | q
          · exact a1 v q b2
          · subst q; exact e) (by
    rintro s ⟨r, rfl, hr⟩
    rw [Nat.sub_self] at *
    refine ⟨_, ?_, r, rfl, ?_⟩
    · dsimp only [f_X9_lowestFree_12]
      rw [if_pos (by decide)]
    · rcases hr with ⟨w, a1, a2, a3, a4, a5⟩ | ⟨a1, a2⟩
      · exact Or.inl ⟨w, a2, a3, fun v b => a4 v (by omega) b, a5⟩
      · exact Or.inr ⟨fun v b => a1 v (by omega) b, a2⟩)
  obtain ⟨r, rfl, hr⟩ := h2
  have hr2 : r = enL σ (p 1) := by
    obtain ⟨c1, c2, c3⟩ := lowF_spec σ (p 1)
    unfold enL
    rcases hr with ⟨w, a2, a3, a4, a5⟩ | ⟨a1, a2⟩
    · have : lowF σ (p 1) = w := by
        rcases Nat.lt_trichotomy (lowF σ (p 1)) w with q | q | q
        · exact absurd (c2 (by omega)) (a4 _ q)
        · exact q
        · exact absurd a3 (c3 w q)
      rw [this, if_pos a2, a5]
    · rw [if_neg (fun q => a1 _ q (c2 q)), a2]
  subst hr2
  unfold f_X9_lowestFree
  rw [show (1 : Int32).toNatClampNeg = 1 by decide, h0, show nI (p 1) - (1 : Int32) = nI (p 1) - nI 1 from rfl, op_some h1]
  rfl
theorem M_whoHas {p σ : Nat → Nat} {m : fm_M} (hp : PI p) (hR : RM p σ m) (hH : HI p σ) (c : Nat) (hc : c < 1000) : f_X9_whoHas (nI c) m = some (enW σ c (p 1), m) := by
  have h0 := hR.1 1 (by omega)
  have hp2 := hp.2.2.2.2.1
  obtain ⟨x, h1, h2⟩ := it_go (body := fun (yy : fm_M × Int32 × Int32) => f_X9_whoHas_5 (nI c) yy.1 yy.2.1 yy.2.2) (fun k s => s = (m, enW σ c k, nI k)) (fun x => x = (m, enW σ c (p 1), nI (p 1))) (p 1) (m, -4, 0) (by omega) rfl (by
    rintro k s hk rfl
    left
    have hs := hR.2 (18 + k) (by omega)
    have hs2 := hR.2 (24 + k) (by omega)
    have hb1 := hH.1 (18 + k) (by omega)
    have hb2 := hH.1 (24 + k) (by omega)
    by_cases e : σ (18 + k) = 1 ∧ σ (24 + k) = c
    · refine ⟨_, ?_, rfl⟩
      dsimp only [f_X9_whoHas_5, f_X9_whoHas_46, f_X9_whoHas_45]
      simp (disch := omega) only [zl0, zl1, zl2, zl3, zl4, zl5, zl6, zl7, zl8, zl9, zl10, zl11, zl12, zl13, zl17, zl18, zl19, zl20, zl21, zl22, zl23, zl24, zl25, zl26, zl27, zl28, zl29, zl31, zl32, zl40, zl42, zl44, zl48, zl50, zl57, zl58, zl59, zl60, zl65, zl97, zl98, zl99, zl100, zl103, zl104, zl108, zl119, zl126, zl200, zl203, zl255, zl999, zl9999, zl720, zl232, z_add, z_le, z_lt, z_eq, z_clamp, z_in, z_m4, z_m4n, z_m1n, z_b0, z_b1, m_up_eq, m_up_ne, m_upd_eq, m_upd_ne, bd_s, op_s2, Bool.false_eq_true, eq_self, if_true, if_false, if_pos, if_neg, hs, hs2, h0, enW, whF, Nat.add_sub_cancel]
    · refine ⟨_, ?_, rfl⟩
      dsimp only [f_X9_whoHas_5, f_X9_whoHas_46, f_X9_whoHas_45]
      by_cases e1 : σ (18 + k) = 1
      · simp (disch := omega) only [zl0, zl1, zl2, zl3, zl4, zl5, zl6, zl7, zl8, zl9, zl10, zl11, zl12, zl13, zl17, zl18, zl19, zl20, zl21, zl22, zl23, zl24, zl25, zl26, zl27, zl28, zl29, zl31, zl32, zl40, zl42, zl44, zl48, zl50, zl57, zl58, zl59, zl60, zl65, zl97, zl98, zl99, zl100, zl103, zl104, zl108, zl119, zl126, zl200, zl203, zl255, zl999, zl9999, zl720, zl232, z_add, z_le, z_lt, z_eq, z_clamp, z_in, z_m4, z_m4n, z_m1n, z_b0, z_b1, m_up_eq, m_up_ne, m_upd_eq, m_upd_ne, bd_s, op_s2, Bool.false_eq_true, eq_self, if_true, if_false, if_pos, if_neg, hs, hs2, h0, enW, whF]
      · simp (disch := omega) only [zl0, zl1, zl2, zl3, zl4, zl5, zl6, zl7, zl8, zl9, zl10, zl11, zl12, zl13, zl17, zl18, zl19, zl20, zl21, zl22, zl23, zl24, zl25, zl26, zl27, zl28, zl29, zl31, zl32, zl40, zl42, zl44, zl48, zl50, zl57, zl58, zl59, zl60, zl65, zl97, zl98, zl99, zl100, zl103, zl104, zl108, zl119, zl126, zl200, zl203, zl255, zl999, zl9999, zl720, zl232, z_add, z_le, z_lt, z_eq, z_clamp, z_in, z_m4, z_m4n, z_m1n, z_b0, z_b1, m_up_eq, m_up_ne, m_upd_eq, m_upd_ne, bd_s, op_s2, Bool.false_eq_true, eq_self, if_true, if_false, if_pos, if_neg, hs, hs2, h0, enW, whF]) (by
    rintro s rfl
    refine ⟨_, ?_, rfl⟩
    dsimp only [f_X9_whoHas_5]
    simp (disch := omega) only [zl0, zl1, zl2, zl3, zl4, zl5, zl6, zl7, zl8, zl9, zl10, zl11, zl12, zl13, zl17, zl18, zl19, zl20, zl21, zl22, zl23, zl24, zl25, zl26, zl27, zl28, zl29, zl31, zl32, zl40, zl42, zl44, zl48, zl50, zl57, zl58, zl59, zl60, zl65, zl97, zl98, zl99, zl100, zl103, zl104, zl108, zl119, zl126, zl200, zl203, zl255, zl999, zl9999, zl720, zl232, z_add, z_le, z_lt, z_eq, z_clamp, z_in, z_m4, z_m4n, z_m1n, z_b0, z_b1, m_up_eq, m_up_ne, m_upd_eq, m_upd_ne, bd_s, op_s2, Bool.false_eq_true, eq_self, if_true, if_false, if_pos, if_neg, h0])
  subst h2
  unfold f_X9_whoHas
  rw [op_some h1]
theorem M_isLaid {p σ : Nat → Nat} {m : fm_M} (hp : PI p) (hR : RM p σ m) (hH : HI p σ) : f_X9_isLaid m = some (bI (decide (σ 27 = 1 ∨ 0 < hc σ 18 2 (p 1))), m) := by
  have h0 := hR.1 1 (by omega)
  have h27 := hR.2 27 (by omega)
  have hp2 := hp.2.2.2.2.1
  have b27 := hH.2.2.2.2.1
  have key : f_X9_isLaid_16 (bI (decide (σ 27 = 1 ∨ 0 < hc σ 18 2 0))) m = some (bI (decide (σ 27 = 1 ∨ 0 < hc σ 18 2 (p 1))), m) := by
    obtain ⟨x, h1, h2⟩ := it_go (body := fun (yy : fm_M × Int32 × Int32) => f_X9_isLaid_19 yy.1 yy.2.1 yy.2.2) (fun k s => s = (m, bI (decide (σ 27 = 1 ∨ 0 < hc σ 18 2 k)), nI k)) (fun x => x = (m, bI (decide (σ 27 = 1 ∨ 0 < hc σ 18 2 (p 1))), nI (p 1))) (p 1) (m, bI (decide (σ 27 = 1 ∨ 0 < hc σ 18 2 0)), 0) (by omega) rfl (by
      rintro k s hk rfl
      left
      have hs := hR.2 (18 + k) (by omega)
      have hb1 := hH.1 (18 + k) (by omega)
      refine ⟨_, ?_, rfl⟩
      dsimp only [f_X9_isLaid_19, f_X9_isLaid_46, f_X9_isLaid_51]
      by_cases e1 : σ 27 = 1 ∨ 0 < hc σ 18 2 k
      · have e2 : σ 27 = 1 ∨ 0 < hc σ 18 2 (k + 1) := by
          rcases e1 with q | q
          · exact Or.inl q
          · right; unfold hc; omega
        rw [decide_eq_true e1, decide_eq_true e2]
        simp (disch := omega) only [zl0, zl1, zl2, zl3, zl4, zl5, zl6, zl7, zl8, zl9, zl10, zl11, zl12, zl13, zl17, zl18, zl19, zl20, zl21, zl22, zl23, zl24, zl25, zl26, zl27, zl28, zl29, zl31, zl32, zl40, zl42, zl44, zl48, zl50, zl57, zl58, zl59, zl60, zl65, zl97, zl98, zl99, zl100, zl103, zl104, zl108, zl119, zl126, zl200, zl203, zl255, zl999, zl9999, zl720, zl232, z_add, z_le, z_lt, z_eq, z_clamp, z_in, z_m4, z_m4n, z_m1n, z_b0, z_b1, m_up_eq, m_up_ne, m_upd_eq, m_upd_ne, bd_s, op_s2, Bool.false_eq_true, eq_self, if_true, if_false, if_pos, if_neg, hs, h0, bI, if_true]
      · by_cases e3 : σ (18 + k) = 2
        · have e2 : σ 27 = 1 ∨ 0 < hc σ 18 2 (k + 1) := by right; unfold hc; rw [if_pos e3]; omega
          rw [decide_eq_false e1, decide_eq_true e2]
          simp (disch := omega) only [zl0, zl1, zl2, zl3, zl4, zl5, zl6, zl7, zl8, zl9, zl10, zl11, zl12, zl13, zl17, zl18, zl19, zl20, zl21, zl22, zl23, zl24, zl25, zl26, zl27, zl28, zl29, zl31, zl32, zl40, zl42, zl44, zl48, zl50, zl57, zl58, zl59, zl60, zl65, zl97, zl98, zl99, zl100, zl103, zl104, zl108, zl119, zl126, zl200, zl203, zl255, zl999, zl9999, zl720, zl232, z_add, z_le, z_lt, z_eq, z_clamp, z_in, z_m4, z_m4n, z_m1n, z_b0, z_b1, m_up_eq, m_up_ne, m_upd_eq, m_upd_ne, bd_s, op_s2, Bool.false_eq_true, eq_self, if_true, if_false, if_pos, if_neg, hs, h0, bI, if_true, Bool.false_eq_true, if_false]
        · have e2 : ¬ (σ 27 = 1 ∨ 0 < hc σ 18 2 (k + 1)) := by unfold hc; rw [if_neg e3]; exact e1
          rw [decide_eq_false e1, decide_eq_false e2]
          simp (disch := omega) only [zl0, zl1, zl2, zl3, zl4, zl5, zl6, zl7, zl8, zl9, zl10, zl11, zl12, zl13, zl17, zl18, zl19, zl20, zl21, zl22, zl23, zl24, zl25, zl26, zl27, zl28, zl29, zl31, zl32, zl40, zl42, zl44, zl48, zl50, zl57, zl58, zl59, zl60, zl65, zl97, zl98, zl99, zl100, zl103, zl104, zl108, zl119, zl126, zl200, zl203, zl255, zl999, zl9999, zl720, zl232, z_add, z_le, z_lt, z_eq, z_clamp, z_in, z_m4, z_m4n, z_m1n, z_b0, z_b1, m_up_eq, m_up_ne, m_upd_eq, m_upd_ne, bd_s, op_s2, Bool.false_eq_true, eq_self, if_true, if_false, if_pos, if_neg, hs, h0, bI, if_true, Bool.false_eq_true, if_false]) (by
      rintro s rfl
      refine ⟨_, ?_, rfl⟩
      dsimp only [f_X9_isLaid_19]
      simp (disch := omega) only [zl0, zl1, zl2, zl3, zl4, zl5, zl6, zl7, zl8, zl9, zl10, zl11, zl12, zl13, zl17, zl18, zl19, zl20, zl21, zl22, zl23, zl24, zl25, zl26, zl27, zl28, zl29, zl31, zl32, zl40, zl42, zl44, zl48, zl50, zl57, zl58, zl59, zl60, zl65, zl97, zl98, zl99, zl100, zl103, zl104, zl108, zl119, zl126, zl200, zl203, zl255, zl999, zl9999, zl720, zl232, z_add, z_le, z_lt, z_eq, z_clamp, z_in, z_m4, z_m4n, z_m1n, z_b0, z_b1, m_up_eq, m_up_ne, m_upd_eq, m_upd_ne, bd_s, op_s2, Bool.false_eq_true, eq_self, if_true, if_false, if_pos, if_neg, h0])
    subst h2
    unfold f_X9_isLaid_16
    rw [show (0 : Int32) = nI 0 from rfl] at *
    rw [op_some h1]
    dsimp only
    simp only [bI_b, if_true]
  unfold f_X9_isLaid
  by_cases e : σ 27 = 1
  · simp (disch := omega) only [zl0, zl1, zl2, zl3, zl4, zl5, zl6, zl7, zl8, zl9, zl10, zl11, zl12, zl13, zl17, zl18, zl19, zl20, zl21, zl22, zl23, zl24, zl25, zl26, zl27, zl28, zl29, zl31, zl32, zl40, zl42, zl44, zl48, zl50, zl57, zl58, zl59, zl60, zl65, zl97, zl98, zl99, zl100, zl103, zl104, zl108, zl119, zl126, zl200, zl203, zl255, zl999, zl9999, zl720, zl232, z_add, z_le, z_lt, z_eq, z_clamp, z_in, z_m4, z_m4n, z_m1n, z_b0, z_b1, m_up_eq, m_up_ne, m_upd_eq, m_upd_ne, bd_s, op_s2, Bool.false_eq_true, eq_self, if_true, if_false, if_pos, if_neg, h27]
    rw [← key, decide_eq_true (Or.inl e)]
    rfl
  · simp (disch := omega) only [zl0, zl1, zl2, zl3, zl4, zl5, zl6, zl7, zl8, zl9, zl10, zl11, zl12, zl13, zl17, zl18, zl19, zl20, zl21, zl22, zl23, zl24, zl25, zl26, zl27, zl28, zl29, zl31, zl32, zl40, zl42, zl44, zl48, zl50, zl57, zl58, zl59, zl60, zl65, zl97, zl98, zl99, zl100, zl103, zl104, zl108, zl119, zl126, zl200, zl203, zl255, zl999, zl9999, zl720, zl232, z_add, z_le, z_lt, z_eq, z_clamp, z_in, z_m4, z_m4n, z_m1n, z_b0, z_b1, m_up_eq, m_up_ne, m_upd_eq, m_upd_ne, bd_s, op_s2, Bool.false_eq_true, eq_self, if_true, if_false, if_pos, if_neg, h27]
    rw [← key, decide_eq_false (by simp [hc, e])]
    rfl
theorem M_begin {p σ : Nat → Nat} {m : fm_M} (hR : RM p σ m) {w how k c : Nat} (hw : w < 3) : ∃ m', f_X9_begin (nI w) (nI how) (nI k) (nI c) m = some (0, m') ∧ RM p (begF σ w how k c) m' ∧ FM m m' := by
  refine ⟨_, ?_, ((hR.un (18 + w) how).un (21 + w) k).un (24 + w) c, ((FM.up _ _ _).tr (FM.up _ _ _)).tr (FM.up _ _ _)⟩
  unfold f_X9_begin
  simp (disch := omega) only [zl0, zl1, zl2, zl3, zl4, zl5, zl6, zl7, zl8, zl9, zl10, zl11, zl12, zl13, zl17, zl18, zl19, zl20, zl21, zl22, zl23, zl24, zl25, zl26, zl27, zl28, zl29, zl31, zl32, zl40, zl42, zl44, zl48, zl50, zl57, zl58, zl59, zl60, zl65, zl97, zl98, zl99, zl100, zl103, zl104, zl108, zl119, zl126, zl200, zl203, zl255, zl999, zl9999, zl720, zl232, z_add, z_le, z_lt, z_eq, z_clamp, z_in, z_m4, z_m4n, z_m1n, z_b0, z_b1, m_up_eq, m_up_ne, m_upd_eq, m_upd_ne, bd_s, op_s2, Bool.false_eq_true, eq_self, if_true, if_false, if_pos, if_neg]
theorem M_dresses {p σ : Nat → Nat} {m : fm_M} (hp : PI p) (hR : RM p σ m) (hH : HI p σ) {w c : Nat} (hw : w < p 1) (hc : c < p 0) : ∃ m', f_X9_dresses (nI w) (nI c) m = some (0, m') ∧ RM p (drF p σ w c) m' ∧ FM m m' := by
  have hp1 := hp.2.2.1
  have hp2 := hp.2.2.2.2.1
  obtain ⟨m1, h1, h2, h3⟩ := M_begin (how := 1) (k := minsOf p σ c) (c := c) hR (show w < 3 by omega)
  refine ⟨_, ?_, h2.un c 1, h3.tr (FM.up _ _ _)⟩
  unfold f_X9_dresses
  rw [bd_some (M_minutesOf hp hR hH hc), bd_some (show f_X9_begin (nI w) (1 : Int32) _ _ m = _ from h1)]
  simp (disch := omega) only [zl0, zl1, zl2, zl3, zl4, zl5, zl6, zl7, zl8, zl9, zl10, zl11, zl12, zl13, zl17, zl18, zl19, zl20, zl21, zl22, zl23, zl24, zl25, zl26, zl27, zl28, zl29, zl31, zl32, zl40, zl42, zl44, zl48, zl50, zl57, zl58, zl59, zl60, zl65, zl97, zl98, zl99, zl100, zl103, zl104, zl108, zl119, zl126, zl200, zl203, zl255, zl999, zl9999, zl720, zl232, z_add, z_le, z_lt, z_eq, z_clamp, z_in, z_m4, z_m4n, z_m1n, z_b0, z_b1, m_up_eq, m_up_ne, m_upd_eq, m_upd_ne, bd_s, op_s2, Bool.false_eq_true, eq_self, if_true, if_false, if_pos, if_neg]
