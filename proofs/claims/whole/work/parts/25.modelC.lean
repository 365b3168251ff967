/-! the reference: a minute -/
theorem heF_sa {p σ : Nat → Nat} {k : Nat} (hk : k < 6) (hb : ¬ bl p σ k) (j : Nat) : un (heF p σ k) (6 + k) (if he p σ k then σ (6 + k) + 1 else σ (6 + k)) j = heF p σ (k + 1) j := by
  by_cases e2 : j = 6 + k
  · subst e2
    rw [un_eq, heF_b (by omega) hk, if_pos (show k < k + 1 by omega), if_neg hb]
  · rw [un_ne e2]
    by_cases e1 : j = k
    · subst e1
      rw [heF_a (by omega) hk, heF_a (by omega) hk, if_neg (by omega), if_pos (by omega), if_neg hb]
    · by_cases e3 : j = 12 + k
      · subst e3
        rw [heF_c (by omega) hk, heF_c (by omega) hk, if_neg (by omega), if_pos (by omega), if_neg hb]
      · rw [heF_o hk e1 e2 e3]
theorem heF_sb {p σ : Nat → Nat} {k x : Nat} (hk : k < 6) (hb : bl p σ k) (j : Nat) : un (un (un (un (heF p σ k) (6 + k) x) k 0) (6 + k) 0) (12 + k) (σ (12 + k) + 1) j = heF p σ (k + 1) j := by
  by_cases e3 : j = 12 + k
  · subst e3
    rw [un_eq, heF_c (by omega) hk, if_pos (by omega), if_pos hb]
  · rw [un_ne e3]
    by_cases e2 : j = 6 + k
    · subst e2
      rw [un_eq, heF_b (by omega) hk, if_pos (by omega), if_pos hb]
    · rw [un_ne e2]
      by_cases e1 : j = k
      · subst e1
        rw [un_eq, heF_a (by omega) hk, if_pos (by omega), if_pos hb]
      · rw [un_ne e1, un_ne e2, heF_o hk e1 e2 e3]
theorem M_heat {p σ : Nat → Nat} {m : fm_M} (hp : PI p) (hR : RM p σ m) (hH : HI p σ) : ∃ m', fm_it (fun (yy : fm_M × Int32 × Int32) => f_X9_passes_4 yy.1 yy.2.1 yy.2.2) fm_fu (m, 0, 0) = some (m', nI (bc p σ (p 0)), nI (p 0)) ∧ RM p (heF p σ (p 0)) m' ∧ FM m m' := by
  have hp0 := hp.2.2.1
  obtain ⟨x, h1, m', h2, h3, h4⟩ := it_go (body := fun (yy : fm_M × Int32 × Int32) => f_X9_passes_4 yy.1 yy.2.1 yy.2.2) (fun k s => ∃ m', s = (m', nI (bc p σ k), nI k) ∧ RM p (heF p σ k) m' ∧ FM m m') (fun x => ∃ m', x = (m', nI (bc p σ (p 0)), nI (p 0)) ∧ RM p (heF p σ (p 0)) m' ∧ FM m m') (p 0) (m, 0, 0) (by omega) ⟨m, rfl, by rw [heF_0]; exact hR, FM.rf m⟩ (by
    rintro k s hk ⟨m', rfl, hR', hF⟩
    left
    have a0 := hR'.1 0 (by omega)
    have a2 := hR'.1 2 (by omega)
    have a5 := hR'.1 (5 + k) (by omega)
    have c0 := hR'.2 k (by omega)
    rw [heF_a (by omega) (by omega), if_neg (by omega)] at c0
    have c6 := hR'.2 (6 + k) (by omega)
    rw [heF_b (by omega) (by omega), if_neg (by omega)] at c6
    have c12 := hR'.2 (12 + k) (by omega)
    rw [heF_c (by omega) (by omega), if_neg (by omega)] at c12
    have c28 := hR'.2 28 (by omega)
    rw [heF_hi (by omega) (by omega)] at c28
    have b2 := hp.1 2 (by omega)
    have b5 := hp.1 (5 + k) (by omega)
    have d0 := hH.1 k (by omega)
    have d6 := hH.1 (6 + k) (by omega)
    have d12 := hH.1 (12 + k) (by omega)
    have d28 := hH.1 28 (by omega)
    have hbl := bc_le p σ k
    have dH := (hH.2.1 k hk).2.2.1
    by_cases e1 : he p σ k
    · by_cases e2 : p 2 ≤ σ (6 + k)
      · have eb : bl p σ k := ⟨e1, e2⟩
        refine ⟨(fm_up (fm_up (fm_up (fm_up m' 4 (6 + k) (nI (σ (6 + k) + 1))) 4 k (nI 0)) 4 (6 + k) (nI 0)) 4 (12 + k) (nI (σ (12 + k) + 1)), nI (bc p σ (k + 1)), nI (k + 1)), ?_, _, rfl, (((((hR'.un _ _).un _ _).un _ _).un _ _).ext (fun j _ => heF_sb (by omega) eb j)), (((hF.tr (FM.up _ _ _)).tr (FM.up _ _ _)).tr (FM.up _ _ _)).tr (FM.up _ _ _)⟩
        dsimp only [f_X9_passes_4, f_X9_passes_48, f_X9_passes_52, f_X9_passes_53, f_X9_passes_73, f_X9_passes_126]
        by_cases e3 : p (5 + k) = 2
        · simp (disch := omega) only [zl0, zl1, zl2, zl3, zl4, zl5, zl6, zl7, zl8, zl9, zl10, zl11, zl12, zl13, zl17, zl18, zl19, zl20, zl21, zl22, zl23, zl24, zl25, zl26, zl27, zl28, zl29, zl31, zl32, zl40, zl42, zl44, zl48, zl50, zl57, zl58, zl59, zl60, zl65, zl97, zl98, zl99, zl100, zl103, zl104, zl108, zl119, zl126, zl200, zl203, zl255, zl999, zl9999, zl720, zl232, z_add, z_le, z_lt, z_eq, z_clamp, z_in, z_m4, z_m4n, z_m1n, z_b0, z_b1, m_up_eq, m_up_ne, m_upd_eq, m_upd_ne, bd_s, op_s2, Bool.false_eq_true, eq_self, if_true, if_false, if_pos, if_neg, z_rem, a0, a2, a5, c0, c6, c12, c28, bc]
        · simp (disch := omega) only [zl0, zl1, zl2, zl3, zl4, zl5, zl6, zl7, zl8, zl9, zl10, zl11, zl12, zl13, zl17, zl18, zl19, zl20, zl21, zl22, zl23, zl24, zl25, zl26, zl27, zl28, zl29, zl31, zl32, zl40, zl42, zl44, zl48, zl50, zl57, zl58, zl59, zl60, zl65, zl97, zl98, zl99, zl100, zl103, zl104, zl108, zl119, zl126, zl200, zl203, zl255, zl999, zl9999, zl720, zl232, z_add, z_le, z_lt, z_eq, z_clamp, z_in, z_m4, z_m4n, z_m1n, z_b0, z_b1, m_up_eq, m_up_ne, m_upd_eq, m_upd_ne, bd_s, op_s2, Bool.false_eq_true, eq_self, if_true, if_false, if_pos, if_neg, z_rem, a0, a2, a5, c0, c6, c12, c28, bc]
      · have eb : ¬ bl p σ k := fun q => e2 q.2
        refine ⟨(fm_up m' 4 (6 + k) (nI (σ (6 + k) + 1)), nI (bc p σ (k + 1)), nI (k + 1)), ?_, _, rfl, (hR'.un _ _).ext (fun j _ => by have := heF_sa (by omega) eb j; rwa [if_pos e1] at this), hF.tr (FM.up _ _ _)⟩
        dsimp only [f_X9_passes_4, f_X9_passes_48, f_X9_passes_52, f_X9_passes_53, f_X9_passes_73, f_X9_passes_126]
        by_cases e3 : p (5 + k) = 2
        · simp (disch := omega) only [zl0, zl1, zl2, zl3, zl4, zl5, zl6, zl7, zl8, zl9, zl10, zl11, zl12, zl13, zl17, zl18, zl19, zl20, zl21, zl22, zl23, zl24, zl25, zl26, zl27, zl28, zl29, zl31, zl32, zl40, zl42, zl44, zl48, zl50, zl57, zl58, zl59, zl60, zl65, zl97, zl98, zl99, zl100, zl103, zl104, zl108, zl119, zl126, zl200, zl203, zl255, zl999, zl9999, zl720, zl232, z_add, z_le, z_lt, z_eq, z_clamp, z_in, z_m4, z_m4n, z_m1n, z_b0, z_b1, m_up_eq, m_up_ne, m_upd_eq, m_upd_ne, bd_s, op_s2, Bool.false_eq_true, eq_self, if_true, if_false, if_pos, if_neg, z_rem, a0, a2, a5, c0, c6, c12, c28, bc, Nat.add_zero]
        · simp (disch := omega) only [zl0, zl1, zl2, zl3, zl4, zl5, zl6, zl7, zl8, zl9, zl10, zl11, zl12, zl13, zl17, zl18, zl19, zl20, zl21, zl22, zl23, zl24, zl25, zl26, zl27, zl28, zl29, zl31, zl32, zl40, zl42, zl44, zl48, zl50, zl57, zl58, zl59, zl60, zl65, zl97, zl98, zl99, zl100, zl103, zl104, zl108, zl119, zl126, zl200, zl203, zl255, zl999, zl9999, zl720, zl232, z_add, z_le, z_lt, z_eq, z_clamp, z_in, z_m4, z_m4n, z_m1n, z_b0, z_b1, m_up_eq, m_up_ne, m_upd_eq, m_upd_ne, bd_s, op_s2, Bool.false_eq_true, eq_self, if_true, if_false, if_pos, if_neg, z_rem, a0, a2, a5, c0, c6, c12, c28, bc, Nat.add_zero]
    · have eb : ¬ bl p σ k := fun q => e1 q.1
      refine ⟨(fm_up m' 4 (6 + k) (nI (σ (6 + k))), nI (bc p σ (k + 1)), nI (k + 1)), ?_, _, rfl, (hR'.un _ _).ext (fun j _ => by have := heF_sa (by omega) eb j; rwa [if_neg e1] at this), hF.tr (FM.up _ _ _)⟩
      dsimp only [f_X9_passes_4, f_X9_passes_48, f_X9_passes_52, f_X9_passes_53, f_X9_passes_73, f_X9_passes_126]
      by_cases e2 : σ k = 2
      · have e3 : p (5 + k) = 2 := by
          by_cases q : p (5 + k) = 2
          · exact q
          · exact absurd ⟨e2, Or.inl q⟩ e1
        have e4 : ¬ σ 28 % 2 = 0 := fun q => e1 ⟨e2, Or.inr q⟩
        simp (disch := omega) only [zl0, zl1, zl2, zl3, zl4, zl5, zl6, zl7, zl8, zl9, zl10, zl11, zl12, zl13, zl17, zl18, zl19, zl20, zl21, zl22, zl23, zl24, zl25, zl26, zl27, zl28, zl29, zl31, zl32, zl40, zl42, zl44, zl48, zl50, zl57, zl58, zl59, zl60, zl65, zl97, zl98, zl99, zl100, zl103, zl104, zl108, zl119, zl126, zl200, zl203, zl255, zl999, zl9999, zl720, zl232, z_add, z_le, z_lt, z_eq, z_clamp, z_in, z_m4, z_m4n, z_m1n, z_b0, z_b1, m_up_eq, m_up_ne, m_upd_eq, m_upd_ne, bd_s, op_s2, Bool.false_eq_true, eq_self, if_true, if_false, if_pos, if_neg, z_rem, a0, a2, a5, c0, c6, c12, c28, bc, Nat.add_zero]
      · simp (disch := omega) only [zl0, zl1, zl2, zl3, zl4, zl5, zl6, zl7, zl8, zl9, zl10, zl11, zl12, zl13, zl17, zl18, zl19, zl20, zl21, zl22, zl23, zl24, zl25, zl26, zl27, zl28, zl29, zl31, zl32, zl40, zl42, zl44, zl48, zl50, zl57, zl58, zl59, zl60, zl65, zl97, zl98, zl99, zl100, zl103, zl104, zl108, zl119, zl126, zl200, zl203, zl255, zl999, zl9999, zl720, zl232, z_add, z_le, z_lt, z_eq, z_clamp, z_in, z_m4, z_m4n, z_m1n, z_b0, z_b1, m_up_eq, m_up_ne, m_upd_eq, m_upd_ne, bd_s, op_s2, Bool.false_eq_true, eq_self, if_true, if_false, if_pos, if_neg, z_rem, a0, a2, a5, c0, c6, c12, c28, bc, Nat.add_zero]) (by
    rintro s ⟨m', rfl, hR', hF⟩
    have a0 := hR'.1 0 (by omega)
    refine ⟨_, ?_, m', rfl, hR', hF⟩
    dsimp only [f_X9_passes_4]
    simp (disch := omega) only [zl0, zl1, zl2, zl3, zl4, zl5, zl6, zl7, zl8, zl9, zl10, zl11, zl12, zl13, zl17, zl18, zl19, zl20, zl21, zl22, zl23, zl24, zl25, zl26, zl27, zl28, zl29, zl31, zl32, zl40, zl42, zl44, zl48, zl50, zl57, zl58, zl59, zl60, zl65, zl97, zl98, zl99, zl100, zl103, zl104, zl108, zl119, zl126, zl200, zl203, zl255, zl999, zl9999, zl720, zl232, z_add, z_le, z_lt, z_eq, z_clamp, z_in, z_m4, z_m4n, z_m1n, z_b0, z_b1, m_up_eq, m_up_ne, m_upd_eq, m_upd_ne, bd_s, op_s2, Bool.false_eq_true, eq_self, if_true, if_false, if_pos, if_neg, a0])
  exact ⟨m', by rw [h1, h2], h3, h4⟩
theorem M_work {p τ : Nat → Nat} {m : fm_M} (hp : PI p) (hR : RM p τ m) (hb : ∀ j, j < 29 → τ j < 4000) (hc : ∀ w, w < p 1 → τ (18 + w) = 1 → τ (24 + w) < 6) (v : Int32) : ∃ m', fm_it (fun (yy : fm_M × Int32) => f_X9_passes_134 v yy.1 yy.2) fm_fu (m, 0) = some (m', nI (p 1)) ∧ RM p (woF τ (p 1)) m' ∧ FM m m' := by
  have hp1 := hp.2.2.2.2.1
  obtain ⟨x, h1, m', h2, h3, h4⟩ := it_go (body := fun (yy : fm_M × Int32) => f_X9_passes_134 v yy.1 yy.2) (fun k s => ∃ m', s = (m', nI k) ∧ RM p (woF τ k) m' ∧ FM m m') (fun x => ∃ m', x = (m', nI (p 1)) ∧ RM p (woF τ (p 1)) m' ∧ FM m m') (p 1) (m, 0) (by omega) ⟨m, rfl, hR, FM.rf m⟩ (by
    rintro k s hk ⟨m', rfl, hR', hF⟩
    left
    have kk : ∀ j, 6 ≤ j → ¬ j = 27 → (∀ u, u < k → ¬ j = 18 + u ∧ ¬ j = 21 + u ∧ ¬ j = 24 + u) → woF τ k j = τ j := woF_keep hp1 hc k (by omega)
    have k18 : woF τ k (18 + k) = τ (18 + k) := kk _ (by omega) (by omega) (fun u hu => ⟨by omega, by omega, by omega⟩)
    have k21 : woF τ k (21 + k) = τ (21 + k) := kk _ (by omega) (by omega) (fun u hu => ⟨by omega, by omega, by omega⟩)
    have k24 : woF τ k (24 + k) = τ (24 + k) := kk _ (by omega) (by omega) (fun u hu => ⟨by omega, by omega, by omega⟩)
    have a1 := hR'.1 1 (by omega)
    have c18 := hR'.2 (18 + k) (by omega)
    rw [k18] at c18
    have c21 := hR'.2 (21 + k) (by omega)
    rw [k21] at c21
    have c24 := hR'.2 (24 + k) (by omega)
    rw [k24] at c24
    have d18 := hb (18 + k) (by omega)
    have d21 := hb (21 + k) (by omega)
    have d24 := hb (24 + k) (by omega)
    by_cases e0 : τ (21 + k) = 0
    · refine ⟨(fm_up m' 4 (21 + k) (nI (τ (21 + k))), nI (k + 1)), ?_, _, rfl, (hR'.un _ _).ext (fun j _ => ?_), hF.tr (FM.up _ _ _)⟩
      · dsimp only [f_X9_passes_134, f_X9_passes_161, f_X9_passes_181, f_X9_passes_246]
        simp (disch := omega) only [zl0, zl1, zl2, zl3, zl4, zl5, zl6, zl7, zl8, zl9, zl10, zl11, zl12, zl13, zl17, zl18, zl19, zl20, zl21, zl22, zl23, zl24, zl25, zl26, zl27, zl28, zl29, zl31, zl32, zl40, zl42, zl44, zl48, zl50, zl57, zl58, zl59, zl60, zl65, zl97, zl98, zl99, zl100, zl103, zl104, zl108, zl119, zl126, zl200, zl203, zl255, zl999, zl9999, zl720, zl232, z_add, z_le, z_lt, z_eq, z_clamp, z_in, z_m4, z_m4n, z_m1n, z_b0, z_b1, m_up_eq, m_up_ne, m_upd_eq, m_upd_ne, bd_s, op_s2, Bool.false_eq_true, eq_self, if_true, if_false, if_pos, if_neg, z_sub, a1, c18, c21, c24, Nat.sub_zero]
      · rw [woF, wo1, k21, if_pos e0]
        by_cases q : j = 21 + k
        · subst q; rw [un_eq, k21]
        · rw [un_ne q]
    · by_cases e1 : τ (21 + k) = 1
      · by_cases e2 : τ (18 + k) = 1
        · have hcc := hc k hk e2
          obtain ⟨m3, g1, g2, g3⟩ := M_begin (how := 0) (k := 0) (c := 0) ((hR'.un (21 + k) (τ (21 + k) - 1)).un (τ (24 + k)) 2) (show k < 3 by omega)
          refine ⟨(m3, nI (k + 1)), ?_, _, rfl, g2.ext (fun j _ => ?_), ((hF.tr (FM.up _ _ _)).tr (FM.up _ _ _)).tr g3⟩
          · dsimp only [f_X9_passes_134, f_X9_passes_161, f_X9_passes_181, f_X9_passes_246, f_X9_passes_238]
            simp (disch := omega) only [zl0, zl1, zl2, zl3, zl4, zl5, zl6, zl7, zl8, zl9, zl10, zl11, zl12, zl13, zl17, zl18, zl19, zl20, zl21, zl22, zl23, zl24, zl25, zl26, zl27, zl28, zl29, zl31, zl32, zl40, zl42, zl44, zl48, zl50, zl57, zl58, zl59, zl60, zl65, zl97, zl98, zl99, zl100, zl103, zl104, zl108, zl119, zl126, zl200, zl203, zl255, zl999, zl9999, zl720, zl232, z_add, z_le, z_lt, z_eq, z_clamp, z_in, z_m4, z_m4n, z_m1n, z_b0, z_b1, m_up_eq, m_up_ne, m_upd_eq, m_upd_ne, bd_s, op_s2, Bool.false_eq_true, eq_self, if_true, if_false, if_pos, if_neg, z_sub, a1, c18, c21, c24]
            rw [bd_some g1]
          · rw [woF, wo1, k21, k18, k24, if_neg e0, if_pos e1, if_pos e2, e1]
        · obtain ⟨m3, g1, g2, g3⟩ := M_begin (how := 0) (k := 0) (c := 0) ((hR'.un (21 + k) (τ (21 + k) - 1)).un 27 1) (show k < 3 by omega)
          refine ⟨(m3, nI (k + 1)), ?_, _, rfl, g2.ext (fun j _ => ?_), ((hF.tr (FM.up _ _ _)).tr (FM.up _ _ _)).tr g3⟩
          · dsimp only [f_X9_passes_134, f_X9_passes_161, f_X9_passes_181, f_X9_passes_246, f_X9_passes_238]
            simp (disch := omega) only [zl0, zl1, zl2, zl3, zl4, zl5, zl6, zl7, zl8, zl9, zl10, zl11, zl12, zl13, zl17, zl18, zl19, zl20, zl21, zl22, zl23, zl24, zl25, zl26, zl27, zl28, zl29, zl31, zl32, zl40, zl42, zl44, zl48, zl50, zl57, zl58, zl59, zl60, zl65, zl97, zl98, zl99, zl100, zl103, zl104, zl108, zl119, zl126, zl200, zl203, zl255, zl999, zl9999, zl720, zl232, z_add, z_le, z_lt, z_eq, z_clamp, z_in, z_m4, z_m4n, z_m1n, z_b0, z_b1, m_up_eq, m_up_ne, m_upd_eq, m_upd_ne, bd_s, op_s2, Bool.false_eq_true, eq_self, if_true, if_false, if_pos, if_neg, z_sub, a1, c18, c21, c24]
            rw [bd_some g1]
          · rw [woF, wo1, k21, k18, k24, if_neg e0, if_pos e1, if_neg e2, e1]
      · refine ⟨(fm_up m' 4 (21 + k) (nI (τ (21 + k) - 1)), nI (k + 1)), ?_, _, rfl, (hR'.un _ _).ext (fun j _ => ?_), hF.tr (FM.up _ _ _)⟩
        · dsimp only [f_X9_passes_134, f_X9_passes_161, f_X9_passes_181, f_X9_passes_246]
          simp (disch := omega) only [zl0, zl1, zl2, zl3, zl4, zl5, zl6, zl7, zl8, zl9, zl10, zl11, zl12, zl13, zl17, zl18, zl19, zl20, zl21, zl22, zl23, zl24, zl25, zl26, zl27, zl28, zl29, zl31, zl32, zl40, zl42, zl44, zl48, zl50, zl57, zl58, zl59, zl60, zl65, zl97, zl98, zl99, zl100, zl103, zl104, zl108, zl119, zl126, zl200, zl203, zl255, zl999, zl9999, zl720, zl232, z_add, z_le, z_lt, z_eq, z_clamp, z_in, z_m4, z_m4n, z_m1n, z_b0, z_b1, m_up_eq, m_up_ne, m_upd_eq, m_upd_ne, bd_s, op_s2, Bool.false_eq_true, eq_self, if_true, if_false, if_pos, if_neg, z_sub, a1, c18, c21, c24]
        · rw [woF, wo1, k21, if_neg e0, if_neg e1]) (by
    rintro s ⟨m', rfl, hR', hF⟩
    have a1 := hR'.1 1 (by omega)
    refine ⟨_, ?_, m', rfl, hR', hF⟩
    dsimp only [f_X9_passes_134]
    simp (disch := omega) only [zl0, zl1, zl2, zl3, zl4, zl5, zl6, zl7, zl8, zl9, zl10, zl11, zl12, zl13, zl17, zl18, zl19, zl20, zl21, zl22, zl23, zl24, zl25, zl26, zl27, zl28, zl29, zl31, zl32, zl40, zl42, zl44, zl48, zl50, zl57, zl58, zl59, zl60, zl65, zl97, zl98, zl99, zl100, zl103, zl104, zl108, zl119, zl126, zl200, zl203, zl255, zl999, zl9999, zl720, zl232, z_add, z_le, z_lt, z_eq, z_clamp, z_in, z_m4, z_m4n, z_m1n, z_b0, z_b1, m_up_eq, m_up_ne, m_upd_eq, m_upd_ne, bd_s, op_s2, Bool.false_eq_true, eq_self, if_true, if_false, if_pos, if_neg, a1])
  exact ⟨m', by rw [h1, h2], h3, h4⟩
theorem HI.inH {p σ : Nat → Nat} (hp : PI p) (hH : HI p σ) (w : Nat) (hw : w < p 1) (h : σ (18 + w) = 1) : σ (24 + w) < 6 := by
  have := ((hH.2.2.1 w hw).2.2.1 h).2.2.1
  have := hp.2.2.1
  omega
theorem heF_bd {p σ : Nat → Nat} (hp : PI p) (hH : HI p σ) (j : Nat) (hj : j < 29) : heF p σ (p 0) j < 4000 := by
  have := hH.1 j hj
  unfold heF
  repeat' split
  all_goals omega
theorem M_passes {p σ : Nat → Nat} {m : fm_M} (hp : PI p) (hR : RM p σ m) (hH : HI p σ) : ∃ m', f_X9_passes m = some (nI (paB p σ), m') ∧ RM p (paF p σ) m' ∧ FM m m' := by
  have hp0 := hp.2.2.1
  have hp1 := hp.2.2.2.2.1
  obtain ⟨m1, h1, h2, h3⟩ := M_heat hp hR hH
  obtain ⟨m2, h4, h5, h6⟩ := M_work hp h2 (heF_bd hp hH) (fun w hw h => by
    rw [heF_hi hp0 (by omega)] at h ⊢
    exact HI.inH hp hH w hw h) (nI (bc p σ (p 0)))
  have c28 := h5.2 28 (by omega)
  rw [woF_keep (n := p 1) hp1 (fun w hw h => by
    rw [heF_hi hp0 (by omega)] at h ⊢
    exact HI.inH hp hH w hw h) _ (Nat.le_refl _) 28 (by omega) (by omega) (fun v hv => ⟨by omega, by omega, by omega⟩), heF_hi hp0 (by omega)] at c28
  refine ⟨fm_up m2 4 28 (nI (σ 28 + 1)), ?_, h5.un 28 (σ 28 + 1), (h3.tr h6).tr (FM.up _ _ _)⟩
  unfold f_X9_passes paB
  rw [op_some h1]
  dsimp only
  rw [op_some h4]
  dsimp only
  simp (disch := omega) only [zl0, zl1, zl2, zl3, zl4, zl5, zl6, zl7, zl8, zl9, zl10, zl11, zl12, zl13, zl17, zl18, zl19, zl20, zl21, zl22, zl23, zl24, zl25, zl26, zl27, zl28, zl29, zl31, zl32, zl40, zl42, zl44, zl48, zl50, zl57, zl58, zl59, zl60, zl65, zl97, zl98, zl99, zl100, zl103, zl104, zl108, zl119, zl126, zl200, zl203, zl255, zl999, zl9999, zl720, zl232, z_add, z_le, z_lt, z_eq, z_clamp, z_in, z_m4, z_m4n, z_m1n, z_b0, z_b1, m_up_eq, m_up_ne, m_upd_eq, m_upd_ne, bd_s, op_s2, Bool.false_eq_true, eq_self, if_true, if_false, if_pos, if_neg, c28]
