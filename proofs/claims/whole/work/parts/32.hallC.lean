/-! the class's hall: a minute -/
theorem RH_heS {p σ : Nat → Nat} {s' s'' : fm_M} {a k : Nat} (hR : RH p (heF p σ k) s' a) (hk : k < p 0) (hp0 : p 0 ≤ 6) (hp1 : p 1 ≤ 3) (x1 : s'' (a + 1) k = nI (heF p σ (k + 1) k)) (x2 : heF p σ (k + 1) k = 2 → s'' (a + 2) k = nI (heF p σ (k + 1) (6 + k))) (x3 : s'' (a + 3) k = nI (heF p σ (k + 1) (12 + k))) (o1 : ∀ c, ¬ c = k → s'' (a + 1) c = s' (a + 1) c) (o2 : ∀ c, ¬ c = k → s'' (a + 2) c = s' (a + 2) c) (o3 : ∀ c, ¬ c = k → s'' (a + 3) c = s' (a + 3) c) (h4 : s'' (a + 4) = s' (a + 4)) (h5 : s'' (a + 5) = s' (a + 5)) (h6 : s'' (a + 6) = s' (a + 6)) (h0 : s'' a = s' a) : RH p (heF p σ (k + 1)) s'' a := by
  obtain ⟨r1, r2, r3, r4, r5, r6⟩ := hR
  refine ⟨fun c hc => ?_, fun c g1 g2 => ?_, fun v hv => ?_, ?_, ?_, ?_⟩
  · by_cases e : c = k
    · subst e; exact ⟨x1, x2, x3⟩
    · rw [o1 c e, o2 c e, o3 c e, heF_o (by omega) e (by omega) (by omega), heF_o (by omega) (by omega) (show ¬ 6 + c = 6 + k by omega) (by omega), heF_o (by omega) (by omega) (by omega) (show ¬ 12 + c = 12 + k by omega)]
      exact r1 c hc
  · rw [o3 c (by omega)]; exact r2 c g1 g2
  · rw [h4, h5, h6, heF_hi (by omega) (by omega), heF_hi (by omega) (by omega), heF_hi (by omega) (by omega)]
    have := r3 v hv
    rwa [heF_hi (by omega) (by omega), heF_hi (by omega) (by omega), heF_hi (by omega) (by omega)] at this
  · rw [h0]; exact r4
  · rw [h0, heF_hi (by omega) (by omega)]; rwa [heF_hi (by omega) (by omega)] at r5
  · rw [h0, heF_hi (by omega) (by omega)]; rwa [heF_hi (by omega) (by omega)] at r6
theorem X_heat {p σ : Nat → Nat} {s : fm_M} {a : Nat} (hp : PI p) (ha : 9 ≤ a) (hP : RP p s) (hR : RH p σ s a) (hH : HI p σ) : ∃ s', f_X2_heat a s = some (nI (bc p σ (p 0)), s') ∧ RH p (heF p σ (p 0)) s' a ∧ FH a s s' ∧ s' a = s a := by
  have hp0 := hp.2.2.1
  have hp1 := hp.2.2.2.2.1
  obtain ⟨x, h1, s', h2, h3, h4, h5⟩ := it_go (body := fun (yy : fm_M × Int32 × Int32) => f_X2_heat_4 a yy.1 yy.2.1 yy.2.2) (fun k t => ∃ s', t = (s', nI (bc p σ k), nI k) ∧ RH p (heF p σ k) s' a ∧ FH a s s' ∧ s' a = s a) (fun x => ∃ s', x = (s', nI (bc p σ (p 0)), nI (p 0)) ∧ RH p (heF p σ (p 0)) s' a ∧ FH a s s' ∧ s' a = s a) (p 0) (s, 0, 0) (by omega) ⟨s, rfl, by rw [heF_0]; exact hR, FH.rf a s, rfl⟩ (by
    rintro k t hk ⟨s', rfl, hR', hF, h0⟩
    left
    have hP' := hP.fh ha hF
    obtain ⟨w1, w2, -, -, w5⟩ := hP'
    obtain ⟨w7, -⟩ := w5 k hk
    obtain ⟨q1, q2, q3⟩ := hR'.1 k hk
    rw [heF_a (by omega) (by omega), if_neg (by omega)] at q1 q2
    rw [heF_b (by omega) (by omega), if_neg (by omega)] at q2
    rw [heF_c (by omega) (by omega), if_neg (by omega)] at q3
    have q8 := hR'.2.2.2.2.1
    rw [heF_hi (by omega) (by omega)] at q8
    have b2 := hp.1 2 (by omega)
    have b5 := hp.1 (5 + k) (by omega)
    have d0 := hH.1 k (by omega)
    have d6 := hH.1 (6 + k) (by omega)
    have d12 := hH.1 (12 + k) (by omega)
    have d28 := hH.1 28 (by omega)
    have hbl := bc_le p σ k
    by_cases e1 : he p σ k
    · have q6 := q2 e1.1
      have e0 := e1.1
      by_cases e2 : p 2 ≤ σ (6 + k)
      · have eb : bl p σ k := ⟨e1, e2⟩
        refine ⟨(fm_up (fm_up (fm_up s' (a + 2) k (nI (σ (6 + k) + 1))) (a + 1) k (nI 0)) (a + 3) k (nI (σ (12 + k) + 1)), nI (bc p σ (k + 1)), nI (k + 1)), ?_, _, rfl, ?_, ((hF.tr (FH.up _ _ _ _ (by omega) (by omega))).tr (FH.up _ _ _ _ (by omega) (by omega))).tr (FH.up _ _ _ _ (by omega) (by omega)), ?_⟩
        · dsimp only [f_X2_heat_4, f_X2_heat_47, f_X2_heat_48, f_X2_heat_109]
          by_cases e3 : p (5 + k) = 2
          · simp (disch := omega) only [zl0, zl1, zl2, zl3, zl4, zl5, zl6, zl7, zl8, zl9, zl10, zl11, zl12, zl13, zl17, zl18, zl19, zl20, zl21, zl22, zl23, zl24, zl25, zl26, zl27, zl28, zl29, zl31, zl32, zl40, zl42, zl44, zl48, zl50, zl57, zl58, zl59, zl60, zl65, zl97, zl98, zl99, zl100, zl103, zl104, zl108, zl119, zl126, zl200, zl203, zl255, zl999, zl9999, zl720, zl232, z_add, z_le, z_lt, z_eq, z_clamp, z_in, z_m4, z_m4n, z_m1n, z_b0, z_b1, m_up_eq, m_up_ne, m_upd_eq, m_upd_ne, bd_s, op_s2, Bool.false_eq_true, eq_self, if_true, if_false, if_pos, if_neg, z_rem, w1, w2, w7, q1, q3, q6, q8, bc]
          · simp (disch := omega) only [zl0, zl1, zl2, zl3, zl4, zl5, zl6, zl7, zl8, zl9, zl10, zl11, zl12, zl13, zl17, zl18, zl19, zl20, zl21, zl22, zl23, zl24, zl25, zl26, zl27, zl28, zl29, zl31, zl32, zl40, zl42, zl44, zl48, zl50, zl57, zl58, zl59, zl60, zl65, zl97, zl98, zl99, zl100, zl103, zl104, zl108, zl119, zl126, zl200, zl203, zl255, zl999, zl9999, zl720, zl232, z_add, z_le, z_lt, z_eq, z_clamp, z_in, z_m4, z_m4n, z_m1n, z_b0, z_b1, m_up_eq, m_up_ne, m_upd_eq, m_upd_ne, bd_s, op_s2, Bool.false_eq_true, eq_self, if_true, if_false, if_pos, if_neg, z_rem, w1, w2, w7, q1, q3, q6, q8, bc]
        · refine RH_heS hR' hk hp0 hp1 ?_ ?_ ?_ ?_ ?_ ?_ ?_ ?_ ?_ ?_
          · rw [heF_a (by omega) (by omega), if_pos (by omega), if_pos eb]
            simp (disch := omega) only [m_up_eq, m_up_ne, m_upd_eq]
          · rw [heF_a (by omega) (by omega), if_pos (by omega), if_pos eb]
            intro q; omega
          · rw [heF_c (by omega) (by omega), if_pos (by omega), if_pos eb]
            simp (disch := omega) only [m_up_eq, m_upd_eq]
          · intro c hc
            simp (disch := omega) only [m_up_eq, m_up_ne, m_upd_ne]
          · intro c hc
            simp (disch := omega) only [m_up_eq, m_up_ne, m_upd_ne]
          · intro c hc
            simp (disch := omega) only [m_up_eq, m_up_ne, m_upd_ne]
          · simp (disch := omega) only [m_up_ne]
          · simp (disch := omega) only [m_up_ne]
          · simp (disch := omega) only [m_up_ne]
          · simp (disch := omega) only [m_up_ne]
        · simp (disch := omega) only [m_up_ne]
          exact h0
      · have eb : ¬ bl p σ k := fun q => e2 q.2
        refine ⟨(fm_up s' (a + 2) k (nI (σ (6 + k) + 1)), nI (bc p σ (k + 1)), nI (k + 1)), ?_, _, rfl, ?_, hF.tr (FH.up _ _ _ _ (by omega) (by omega)), ?_⟩
        · dsimp only [f_X2_heat_4, f_X2_heat_47, f_X2_heat_48, f_X2_heat_109]
          by_cases e3 : p (5 + k) = 2
          · simp (disch := omega) only [zl0, zl1, zl2, zl3, zl4, zl5, zl6, zl7, zl8, zl9, zl10, zl11, zl12, zl13, zl17, zl18, zl19, zl20, zl21, zl22, zl23, zl24, zl25, zl26, zl27, zl28, zl29, zl31, zl32, zl40, zl42, zl44, zl48, zl50, zl57, zl58, zl59, zl60, zl65, zl97, zl98, zl99, zl100, zl103, zl104, zl108, zl119, zl126, zl200, zl203, zl255, zl999, zl9999, zl720, zl232, z_add, z_le, z_lt, z_eq, z_clamp, z_in, z_m4, z_m4n, z_m1n, z_b0, z_b1, m_up_eq, m_up_ne, m_upd_eq, m_upd_ne, bd_s, op_s2, Bool.false_eq_true, eq_self, if_true, if_false, if_pos, if_neg, z_rem, w1, w2, w7, q1, q3, q6, q8, bc, Nat.add_zero]
          · simp (disch := omega) only [zl0, zl1, zl2, zl3, zl4, zl5, zl6, zl7, zl8, zl9, zl10, zl11, zl12, zl13, zl17, zl18, zl19, zl20, zl21, zl22, zl23, zl24, zl25, zl26, zl27, zl28, zl29, zl31, zl32, zl40, zl42, zl44, zl48, zl50, zl57, zl58, zl59, zl60, zl65, zl97, zl98, zl99, zl100, zl103, zl104, zl108, zl119, zl126, zl200, zl203, zl255, zl999, zl9999, zl720, zl232, z_add, z_le, z_lt, z_eq, z_clamp, z_in, z_m4, z_m4n, z_m1n, z_b0, z_b1, m_up_eq, m_up_ne, m_upd_eq, m_upd_ne, bd_s, op_s2, Bool.false_eq_true, eq_self, if_true, if_false, if_pos, if_neg, z_rem, w1, w2, w7, q1, q3, q6, q8, bc, Nat.add_zero]
        · refine RH_heS hR' hk hp0 hp1 ?_ ?_ ?_ ?_ ?_ ?_ ?_ ?_ ?_ ?_
          · rw [heF_a (by omega) (by omega), if_pos (by omega), if_neg eb]
            simp (disch := omega) only [m_up_ne]
            exact q1
          · intro _
            rw [heF_b (by omega) (by omega), if_pos (by omega), if_neg eb, if_pos e1]
            simp (disch := omega) only [m_up_eq, m_upd_eq]
          · rw [heF_c (by omega) (by omega), if_pos (by omega), if_neg eb]
            simp (disch := omega) only [m_up_ne]
            exact q3
          · intro c hc
            simp (disch := omega) only [m_up_ne]
          · intro c hc
            simp (disch := omega) only [m_up_eq, m_upd_ne]
          · intro c hc
            simp (disch := omega) only [m_up_ne]
          · simp (disch := omega) only [m_up_ne]
          · simp (disch := omega) only [m_up_ne]
          · simp (disch := omega) only [m_up_ne]
          · simp (disch := omega) only [m_up_ne]
        · simp (disch := omega) only [m_up_ne]
          exact h0
    · have eb : ¬ bl p σ k := fun q => e1 q.1
      refine ⟨(s', nI (bc p σ (k + 1)), nI (k + 1)), ?_, _, rfl, ?_, hF, h0⟩
      · dsimp only [f_X2_heat_4, f_X2_heat_47, f_X2_heat_48, f_X2_heat_109]
        by_cases e2 : σ k = 2
        · have e3 : p (5 + k) = 2 := by
            by_cases q : p (5 + k) = 2
            · exact q
            · exact absurd ⟨e2, Or.inl q⟩ e1
          have e4 : ¬ σ 28 % 2 = 0 := fun q => e1 ⟨e2, Or.inr q⟩
          simp (disch := omega) only [zl0, zl1, zl2, zl3, zl4, zl5, zl6, zl7, zl8, zl9, zl10, zl11, zl12, zl13, zl17, zl18, zl19, zl20, zl21, zl22, zl23, zl24, zl25, zl26, zl27, zl28, zl29, zl31, zl32, zl40, zl42, zl44, zl48, zl50, zl57, zl58, zl59, zl60, zl65, zl97, zl98, zl99, zl100, zl103, zl104, zl108, zl119, zl126, zl200, zl203, zl255, zl999, zl9999, zl720, zl232, z_add, z_le, z_lt, z_eq, z_clamp, z_in, z_m4, z_m4n, z_m1n, z_b0, z_b1, m_up_eq, m_up_ne, m_upd_eq, m_upd_ne, bd_s, op_s2, Bool.false_eq_true, eq_self, if_true, if_false, if_pos, if_neg, z_rem, w1, w2, w7, q1, q3, q8, bc, Nat.add_zero]
        · by_cases e3 : p (5 + k) = 2
          · by_cases e4 : σ 28 % 2 = 0
            · simp (disch := omega) only [zl0, zl1, zl2, zl3, zl4, zl5, zl6, zl7, zl8, zl9, zl10, zl11, zl12, zl13, zl17, zl18, zl19, zl20, zl21, zl22, zl23, zl24, zl25, zl26, zl27, zl28, zl29, zl31, zl32, zl40, zl42, zl44, zl48, zl50, zl57, zl58, zl59, zl60, zl65, zl97, zl98, zl99, zl100, zl103, zl104, zl108, zl119, zl126, zl200, zl203, zl255, zl999, zl9999, zl720, zl232, z_add, z_le, z_lt, z_eq, z_clamp, z_in, z_m4, z_m4n, z_m1n, z_b0, z_b1, m_up_eq, m_up_ne, m_upd_eq, m_upd_ne, bd_s, op_s2, Bool.false_eq_true, eq_self, if_true, if_false, if_pos, if_neg, z_rem, w1, w2, w7, q1, q3, q8, bc, Nat.add_zero]
            · simp (disch := omega) only [zl0, zl1, zl2, zl3, zl4, zl5, zl6, zl7, zl8, zl9, zl10, zl11, zl12, zl13, zl17, zl18, zl19, zl20, zl21, zl22, zl23, zl24, zl25, zl26, zl27, zl28, zl29, zl31, zl32, zl40, zl42, zl44, zl48, zl50, zl57, zl58, zl59, zl60, zl65, zl97, zl98, zl99, zl100, zl103, zl104, zl108, zl119, zl126, zl200, zl203, zl255, zl999, zl9999, zl720, zl232, z_add, z_le, z_lt, z_eq, z_clamp, z_in, z_m4, z_m4n, z_m1n, z_b0, z_b1, m_up_eq, m_up_ne, m_upd_eq, m_upd_ne, bd_s, op_s2, Bool.false_eq_true, eq_self, if_true, if_false, if_pos, if_neg, z_rem, w1, w2, w7, q1, q3, q8, bc, Nat.add_zero]
          · simp (disch := omega) only [zl0, zl1, zl2, zl3, zl4, zl5, zl6, zl7, zl8, zl9, zl10, zl11, zl12, zl13, zl17, zl18, zl19, zl20, zl21, zl22, zl23, zl24, zl25, zl26, zl27, zl28, zl29, zl31, zl32, zl40, zl42, zl44, zl48, zl50, zl57, zl58, zl59, zl60, zl65, zl97, zl98, zl99, zl100, zl103, zl104, zl108, zl119, zl126, zl200, zl203, zl255, zl999, zl9999, zl720, zl232, z_add, z_le, z_lt, z_eq, z_clamp, z_in, z_m4, z_m4n, z_m1n, z_b0, z_b1, m_up_eq, m_up_ne, m_upd_eq, m_upd_ne, bd_s, op_s2, Bool.false_eq_true, eq_self, if_true, if_false, if_pos, if_neg, z_rem, w1, w2, w7, q1, q3, q8, bc, Nat.add_zero]
      · refine RH_heS hR' hk hp0 hp1 ?_ ?_ ?_ (fun _ _ => rfl) (fun _ _ => rfl) (fun _ _ => rfl) rfl rfl rfl rfl
        · rw [heF_a (by omega) (by omega), if_pos (by omega), if_neg eb]; exact q1
        · rw [heF_a (by omega) (by omega), if_pos (by omega), if_neg eb, heF_b (by omega) (by omega), if_pos (by omega), if_neg eb, if_neg e1]; exact q2
        · rw [heF_c (by omega) (by omega), if_pos (by omega), if_neg eb]; exact q3) (by
    rintro t ⟨s', rfl, hR', hF, h0⟩
    have hP' := hP.fh ha hF
    have w1 := hP'.1
    refine ⟨_, ?_, s', rfl, hR', hF, h0⟩
    dsimp only [f_X2_heat_4]
    simp (disch := omega) only [zl0, zl1, zl2, zl3, zl4, zl5, zl6, zl7, zl8, zl9, zl10, zl11, zl12, zl13, zl17, zl18, zl19, zl20, zl21, zl22, zl23, zl24, zl25, zl26, zl27, zl28, zl29, zl31, zl32, zl40, zl42, zl44, zl48, zl50, zl57, zl58, zl59, zl60, zl65, zl97, zl98, zl99, zl100, zl103, zl104, zl108, zl119, zl126, zl200, zl203, zl255, zl999, zl9999, zl720, zl232, z_add, z_le, z_lt, z_eq, z_clamp, z_in, z_m4, z_m4n, z_m1n, z_b0, z_b1, m_up_eq, m_up_ne, m_upd_eq, m_upd_ne, bd_s, op_s2, Bool.false_eq_true, eq_self, if_true, if_false, if_pos, if_neg, w1])
  refine ⟨s', ?_, h3, h4, h5⟩
  subst h2
  unfold f_X2_heat f_X2_heat_115
  rw [op_some h1]
theorem X_work {p τ : Nat → Nat} {s : fm_M} {a : Nat} (hp : PI p) (ha : 9 ≤ a) (hP : RP p s) (hR : RH p τ s a) (hb : ∀ j, j < 29 → τ j < 4000) (hc : ∀ w, w < p 1 → τ (18 + w) = 1 → τ (24 + w) < p 0 ∧ τ (6 + τ (24 + w)) = 0) (ht : ∀ w, w < p 1 → (τ (18 + w) = 1 ∨ τ (18 + w) = 2 ↔ 1 ≤ τ (21 + w))) : ∃ s', f_X2_work a s = some (0, s') ∧ RH p (woF τ (p 1)) s' a ∧ FH a s s' ∧ ∀ j, ¬ j = 9 → s' a j = s a j := by
  have hp0 := hp.2.2.1
  have hp1 := hp.2.2.2.2.1
  have hc6 : ∀ w, w < p 1 → τ (18 + w) = 1 → τ (24 + w) < 6 := fun w hw h => by have := (hc w hw h).1; omega
  obtain ⟨x, h1, s', h2, h3, h4, h5⟩ := it_go (body := fun (yy : fm_M × Int32) => f_X2_work_2 a yy.1 yy.2) (fun k t => ∃ s', t = (s', nI k) ∧ RH p (woF τ k) s' a ∧ FH a s s' ∧ ∀ j, ¬ j = 9 → s' a j = s a j) (fun x => ∃ s', x = (s', nI (p 1)) ∧ RH p (woF τ (p 1)) s' a ∧ FH a s s' ∧ ∀ j, ¬ j = 9 → s' a j = s a j) (p 1) (s, 0) (by omega) ⟨s, rfl, hR, FH.rf a s, fun _ _ => rfl⟩ (by
    rintro k t hk ⟨s', rfl, hR', hF, h0⟩
    left
    have hP' := hP.fh ha hF
    have w1 := hP'.1
    have kk : ∀ j, 6 ≤ j → ¬ j = 27 → (∀ u, u < k → ¬ j = 18 + u ∧ ¬ j = 21 + u ∧ ¬ j = 24 + u) → woF τ k j = τ j := woF_keep hp1 hc6 k (by omega)
    have k18 : woF τ k (18 + k) = τ (18 + k) := kk _ (by omega) (by omega) (fun u hu => ⟨by omega, by omega, by omega⟩)
    have k21 : woF τ k (21 + k) = τ (21 + k) := kk _ (by omega) (by omega) (fun u hu => ⟨by omega, by omega, by omega⟩)
    have k24 : woF τ k (24 + k) = τ (24 + k) := kk _ (by omega) (by omega) (fun u hu => ⟨by omega, by omega, by omega⟩)
    obtain ⟨q4, q5, q6⟩ := hR'.2.2.1 k hk
    rw [k18] at q4 q6
    rw [k21] at q5
    rw [k24] at q6
    have q7 := hR'.2.2.2.1
    have d18 := hb (18 + k) (by omega)
    have d21 := hb (21 + k) (by omega)
    have d24 := hb (24 + k) (by omega)
    have hti := ht k hk
    by_cases e0 : τ (21 + k) = 0
    · refine ⟨(s', nI (k + 1)), ?_, s', rfl, ?_, hF, h0⟩
      · dsimp only [f_X2_work_2, f_X2_work_59]
        simp (disch := omega) only [zl0, zl1, zl2, zl3, zl4, zl5, zl6, zl7, zl8, zl9, zl10, zl11, zl12, zl13, zl17, zl18, zl19, zl20, zl21, zl22, zl23, zl24, zl25, zl26, zl27, zl28, zl29, zl31, zl32, zl40, zl42, zl44, zl48, zl50, zl57, zl58, zl59, zl60, zl65, zl97, zl98, zl99, zl100, zl103, zl104, zl108, zl119, zl126, zl200, zl203, zl255, zl999, zl9999, zl720, zl232, z_add, z_le, z_lt, z_eq, z_clamp, z_in, z_m4, z_m4n, z_m1n, z_b0, z_b1, m_up_eq, m_up_ne, m_upd_eq, m_upd_ne, bd_s, op_s2, Bool.false_eq_true, eq_self, if_true, if_false, if_pos, if_neg, q4, q7]
      · rw [woF, wo1, k21, if_pos e0]; exact hR'
    · by_cases e1 : τ (21 + k) = 1
      · by_cases e2 : τ (18 + k) = 1
        · obtain ⟨c, hcd⟩ : ∃ c, c = τ (24 + k) := ⟨_, rfl⟩
          obtain ⟨hcn, hc0⟩ := hc k hk e2
          rw [← hcd] at hcn hc0
          have q6' := q6 e2
          rw [← hcd] at q6'
          obtain ⟨s1, hs1⟩ : ∃ s1, s1 = fm_up s' (a + 5) k (nI (τ (21 + k) - 1)) := ⟨_, rfl⟩
          have hhw : f_X2_hasWoman a (nI k) s1 = some (bI true, s1) := by
            unfold f_X2_hasWoman f_X2_hasWoman_21 f_X2_hasWoman_22
            have : s1 a 7 = nI (p 1) := by rw [hs1, m_up_ne (by omega)]; exact q7
            simp (disch := omega) only [zl0, zl1, zl2, zl3, zl4, zl5, zl6, zl7, zl8, zl9, zl10, zl11, zl12, zl13, zl17, zl18, zl19, zl20, zl21, zl22, zl23, zl24, zl25, zl26, zl27, zl28, zl29, zl31, zl32, zl40, zl42, zl44, zl48, zl50, zl57, zl58, zl59, zl60, zl65, zl97, zl98, zl99, zl100, zl103, zl104, zl108, zl119, zl126, zl200, zl203, zl255, zl999, zl9999, zl720, zl232, z_add, z_le, z_lt, z_eq, z_clamp, z_in, z_m4, z_m4n, z_m1n, z_b0, z_b1, m_up_eq, m_up_ne, m_upd_eq, m_upd_ne, bd_s, op_s2, Bool.false_eq_true, eq_self, if_true, if_false, if_pos, if_neg, this, bI]
          have hhc := X_hasChild hp (show s1 6 2 = nI (p 0) by rw [hs1, m_up_ne (by omega)]; exact w1) (nI c)
          rw [show fm_in (nI c) (p 0) = true by rw [z_in (by omega)]; exact hcn] at hhc
          have g4 : s1 (a + 4) k = nI (τ (18 + k)) := by rw [hs1, m_up_ne (by omega)]; exact q4
          have g6 : s1 (a + 6) k = nI c := by rw [hs1, m_up_ne (by omega)]; exact q6'
          have hfin : f_X2_finish a (nI k) s1 = some (0, fm_up (fm_up (fm_up (fm_up s1 (a + 1) c (nI 2)) (a + 2) c (nI 0)) (a + 4) k (nI 0)) (a + 6) k (-nI 4)) := by
            unfold f_X2_finish f_X2_finish_67
            simp (disch := omega) only [zl0, zl1, zl2, zl3, zl4, zl5, zl6, zl7, zl8, zl9, zl10, zl11, zl12, zl13, zl17, zl18, zl19, zl20, zl21, zl22, zl23, zl24, zl25, zl26, zl27, zl28, zl29, zl31, zl32, zl40, zl42, zl44, zl48, zl50, zl57, zl58, zl59, zl60, zl65, zl97, zl98, zl99, zl100, zl103, zl104, zl108, zl119, zl126, zl200, zl203, zl255, zl999, zl9999, zl720, zl232, z_add, z_le, z_lt, z_eq, z_clamp, z_in, z_m4, z_m4n, z_m1n, z_b0, z_b1, m_up_eq, m_up_ne, m_upd_eq, m_upd_ne, bd_s, op_s2, Bool.false_eq_true, eq_self, if_true, if_false, if_pos, if_neg, hhw, hhc, g4, g6, bI]
          refine ⟨(fm_up (fm_up (fm_up (fm_up s1 (a + 1) c (nI 2)) (a + 2) c (nI 0)) (a + 4) k (nI 0)) (a + 6) k (-nI 4), nI (k + 1)), ?_, _, rfl, ?_, ?_, ?_⟩
          · dsimp only [f_X2_work_2, f_X2_work_59, f_X2_work_35]
            simp (disch := omega) only [zl0, zl1, zl2, zl3, zl4, zl5, zl6, zl7, zl8, zl9, zl10, zl11, zl12, zl13, zl17, zl18, zl19, zl20, zl21, zl22, zl23, zl24, zl25, zl26, zl27, zl28, zl29, zl31, zl32, zl40, zl42, zl44, zl48, zl50, zl57, zl58, zl59, zl60, zl65, zl97, zl98, zl99, zl100, zl103, zl104, zl108, zl119, zl126, zl200, zl203, zl255, zl999, zl9999, zl720, zl232, z_add, z_le, z_lt, z_eq, z_clamp, z_in, z_m4, z_m4n, z_m1n, z_b0, z_b1, m_up_eq, m_up_ne, m_upd_eq, m_upd_ne, bd_s, op_s2, Bool.false_eq_true, eq_self, if_true, if_false, if_pos, if_neg, q4, q5, q7, z_sub]
            rw [← hs1, bd_some hfin]
          · rw [woF, wo1, k21, k18, k24, if_neg e0, if_pos e1, if_pos e2, ← hcd, hs1]
            obtain ⟨r1, r2, r3, r4, r5, r6⟩ := hR'
            have k6 : woF τ k (6 + c) = 0 := by rw [kk (6 + c) (by omega) (by omega) (fun u hu => ⟨by omega, by omega, by omega⟩)]; exact hc0
            refine ⟨fun i hi => ?_, fun i g1 g2 => ?_, fun v hv => ?_, ?_, ?_, ?_⟩
            · obtain ⟨y1, y2, y3⟩ := r1 i hi
              rw [begF_o (show ¬ i = 18 + k by omega) (by omega) (by omega), begF_o (show ¬ 6 + i = 18 + k by omega) (by omega) (by omega), begF_o (show ¬ 12 + i = 18 + k by omega) (by omega) (by omega), un_ne (show ¬ 6 + i = c by omega), un_ne (show ¬ 12 + i = c by omega), un_ne (show ¬ 6 + i = 21 + k by omega), un_ne (show ¬ 12 + i = 21 + k by omega)]
              simp (disch := omega) only [m_up_eq, m_up_ne]
              by_cases e : i = c
              · subst e
                rw [m_upd_eq, m_upd_eq, un_eq, k6]
                exact ⟨rfl, fun _ => rfl, y3⟩
              · rw [m_upd_ne e, m_upd_ne e, un_ne e, un_ne (by omega)]
                exact ⟨y1, y2, y3⟩
            · simp (disch := omega) only [m_up_ne]
              exact r2 i g1 g2
            · obtain ⟨y1, y2, y3⟩ := r3 v hv
              simp (disch := omega) only [m_up_eq, m_up_ne]
              by_cases e : v = k
              · subst e
                rw [m_upd_eq, m_upd_eq, m_upd_eq, begF_18, begF_21]
                exact ⟨rfl, by rw [e1], fun q => by omega⟩
              · rw [m_upd_ne e, m_upd_ne e, m_upd_ne e, begF_o (show ¬ 18 + v = 18 + k by omega) (by omega) (by omega), begF_o (show ¬ 21 + v = 18 + k by omega) (by omega) (by omega), begF_o (show ¬ 24 + v = 18 + k by omega) (by omega) (by omega)]
                rw [un_ne (show ¬ 18 + v = c by omega), un_ne (show ¬ 21 + v = c by omega), un_ne (show ¬ 24 + v = c by omega), un_ne (show ¬ 18 + v = 21 + k by omega), un_ne (show ¬ 21 + v = 21 + k by omega), un_ne (show ¬ 24 + v = 21 + k by omega)]
                exact ⟨y1, y2, y3⟩
            · simp (disch := omega) only [m_up_ne]
              exact r4
            · rw [begF_o (by omega) (by omega) (by omega), un_ne (by omega), un_ne (by omega)]
              simp (disch := omega) only [m_up_ne]
              exact r5
            · rw [begF_o (by omega) (by omega) (by omega), un_ne (by omega), un_ne (by omega)]
              simp (disch := omega) only [m_up_ne]
              exact r6
          · rw [hs1]
            exact ((((hF.tr (FH.up _ _ _ _ (by omega) (by omega))).tr (FH.up _ _ _ _ (by omega) (by omega))).tr (FH.up _ _ _ _ (by omega) (by omega))).tr (FH.up _ _ _ _ (by omega) (by omega))).tr (FH.up _ _ _ _ (by omega) (by omega))
          · intro j hj
            rw [hs1]
            simp (disch := omega) only [m_up_ne]
            exact h0 j hj
        · have e3 : τ (18 + k) = 2 := by omega
          obtain ⟨s1, hs1⟩ : ∃ s1, s1 = fm_up s' (a + 5) k (nI (τ (21 + k) - 1)) := ⟨_, rfl⟩
          have hhw : f_X2_hasWoman a (nI k) s1 = some (bI true, s1) := by
            unfold f_X2_hasWoman f_X2_hasWoman_21 f_X2_hasWoman_22
            have : s1 a 7 = nI (p 1) := by rw [hs1, m_up_ne (by omega)]; exact q7
            simp (disch := omega) only [zl0, zl1, zl2, zl3, zl4, zl5, zl6, zl7, zl8, zl9, zl10, zl11, zl12, zl13, zl17, zl18, zl19, zl20, zl21, zl22, zl23, zl24, zl25, zl26, zl27, zl28, zl29, zl31, zl32, zl40, zl42, zl44, zl48, zl50, zl57, zl58, zl59, zl60, zl65, zl97, zl98, zl99, zl100, zl103, zl104, zl108, zl119, zl126, zl200, zl203, zl255, zl999, zl9999, zl720, zl232, z_add, z_le, z_lt, z_eq, z_clamp, z_in, z_m4, z_m4n, z_m1n, z_b0, z_b1, m_up_eq, m_up_ne, m_upd_eq, m_upd_ne, bd_s, op_s2, Bool.false_eq_true, eq_self, if_true, if_false, if_pos, if_neg, this, bI]
          have g4 : s1 (a + 4) k = nI (τ (18 + k)) := by rw [hs1, m_up_ne (by omega)]; exact q4
          have hfin : f_X2_finish a (nI k) s1 = some (0, fm_up (fm_up (fm_up s1 a 9 (nI 1)) (a + 4) k (nI 0)) (a + 6) k (-nI 4)) := by
            unfold f_X2_finish f_X2_finish_67
            simp (disch := omega) only [zl0, zl1, zl2, zl3, zl4, zl5, zl6, zl7, zl8, zl9, zl10, zl11, zl12, zl13, zl17, zl18, zl19, zl20, zl21, zl22, zl23, zl24, zl25, zl26, zl27, zl28, zl29, zl31, zl32, zl40, zl42, zl44, zl48, zl50, zl57, zl58, zl59, zl60, zl65, zl97, zl98, zl99, zl100, zl103, zl104, zl108, zl119, zl126, zl200, zl203, zl255, zl999, zl9999, zl720, zl232, z_add, z_le, z_lt, z_eq, z_clamp, z_in, z_m4, z_m4n, z_m1n, z_b0, z_b1, m_up_eq, m_up_ne, m_upd_eq, m_upd_ne, bd_s, op_s2, Bool.false_eq_true, eq_self, if_true, if_false, if_pos, if_neg, hhw, g4, bI]
          refine ⟨(fm_up (fm_up (fm_up s1 a 9 (nI 1)) (a + 4) k (nI 0)) (a + 6) k (-nI 4), nI (k + 1)), ?_, _, rfl, ?_, ?_, ?_⟩
          · dsimp only [f_X2_work_2, f_X2_work_59, f_X2_work_35]
            simp (disch := omega) only [zl0, zl1, zl2, zl3, zl4, zl5, zl6, zl7, zl8, zl9, zl10, zl11, zl12, zl13, zl17, zl18, zl19, zl20, zl21, zl22, zl23, zl24, zl25, zl26, zl27, zl28, zl29, zl31, zl32, zl40, zl42, zl44, zl48, zl50, zl57, zl58, zl59, zl60, zl65, zl97, zl98, zl99, zl100, zl103, zl104, zl108, zl119, zl126, zl200, zl203, zl255, zl999, zl9999, zl720, zl232, z_add, z_le, z_lt, z_eq, z_clamp, z_in, z_m4, z_m4n, z_m1n, z_b0, z_b1, m_up_eq, m_up_ne, m_upd_eq, m_upd_ne, bd_s, op_s2, Bool.false_eq_true, eq_self, if_true, if_false, if_pos, if_neg, q4, q5, q7, z_sub]
            rw [← hs1, bd_some hfin]
          · rw [woF, wo1, k21, k18, if_neg e0, if_pos e1, if_neg e2, hs1]
            obtain ⟨r1, r2, r3, r4, r5, r6⟩ := hR'
            refine ⟨fun i hi => ?_, fun i g1 g2 => ?_, fun v hv => ?_, ?_, ?_, ?_⟩
            · rw [begF_o (show ¬ i = 18 + k by omega) (by omega) (by omega), begF_o (show ¬ 6 + i = 18 + k by omega) (by omega) (by omega), begF_o (show ¬ 12 + i = 18 + k by omega) (by omega) (by omega), un_ne (show ¬ 6 + i = 27 by omega), un_ne (show ¬ 12 + i = 27 by omega), un_ne (show ¬ 6 + i = 21 + k by omega), un_ne (show ¬ 12 + i = 21 + k by omega), un_ne (show ¬ i = 27 by omega), un_ne (show ¬ i = 21 + k by omega)]
              simp (disch := omega) only [m_up_eq, m_up_ne]
              exact r1 i hi
            · simp (disch := omega) only [m_up_ne]
              exact r2 i g1 g2
            · obtain ⟨y1, y2, y3⟩ := r3 v hv
              simp (disch := omega) only [m_up_eq, m_up_ne]
              by_cases e : v = k
              · subst e
                rw [m_upd_eq, m_upd_eq, m_upd_eq, begF_18, begF_21]
                exact ⟨rfl, by rw [e1], fun q => by omega⟩
              · rw [m_upd_ne e, m_upd_ne e, m_upd_ne e, begF_o (show ¬ 18 + v = 18 + k by omega) (by omega) (by omega), begF_o (show ¬ 21 + v = 18 + k by omega) (by omega) (by omega), begF_o (show ¬ 24 + v = 18 + k by omega) (by omega) (by omega)]
                rw [un_ne (show ¬ 18 + v = 27 by omega), un_ne (show ¬ 21 + v = 27 by omega), un_ne (show ¬ 24 + v = 27 by omega), un_ne (show ¬ 18 + v = 21 + k by omega), un_ne (show ¬ 21 + v = 21 + k by omega), un_ne (show ¬ 24 + v = 21 + k by omega)]
                exact ⟨y1, y2, y3⟩
            · simp (disch := omega) only [m_up_eq, m_up_ne, m_upd_ne]
              exact r4
            · rw [begF_o (by omega) (by omega) (by omega), un_ne (by omega), un_ne (by omega)]
              simp (disch := omega) only [m_up_eq, m_up_ne, m_upd_ne]
              exact r5
            · rw [begF_o (by omega) (by omega) (by omega), un_eq]
              simp (disch := omega) only [m_up_eq, m_up_ne, m_upd_eq]
          · rw [hs1]
            exact (((hF.tr (FH.up _ _ _ _ (by omega) (by omega))).tr (FH.up _ _ _ _ (by omega) (by omega))).tr (FH.up _ _ _ _ (by omega) (by omega))).tr (FH.up _ _ _ _ (by omega) (by omega))
          · intro j hj
            rw [hs1]
            simp (disch := omega) only [m_up_eq, m_up_ne, m_upd_ne]
            exact h0 j hj
      · refine ⟨(fm_up s' (a + 5) k (nI (τ (21 + k) - 1)), nI (k + 1)), ?_, _, rfl, ?_, hF.tr (FH.up _ _ _ _ (by omega) (by omega)), fun j hj => by rw [m_up_ne (by omega)]; exact h0 j hj⟩
        · dsimp only [f_X2_work_2, f_X2_work_59, f_X2_work_35]
          by_cases e2 : τ (18 + k) = 1
          · simp (disch := omega) only [zl0, zl1, zl2, zl3, zl4, zl5, zl6, zl7, zl8, zl9, zl10, zl11, zl12, zl13, zl17, zl18, zl19, zl20, zl21, zl22, zl23, zl24, zl25, zl26, zl27, zl28, zl29, zl31, zl32, zl40, zl42, zl44, zl48, zl50, zl57, zl58, zl59, zl60, zl65, zl97, zl98, zl99, zl100, zl103, zl104, zl108, zl119, zl126, zl200, zl203, zl255, zl999, zl9999, zl720, zl232, z_add, z_le, z_lt, z_eq, z_clamp, z_in, z_m4, z_m4n, z_m1n, z_b0, z_b1, m_up_eq, m_up_ne, m_upd_eq, m_upd_ne, bd_s, op_s2, Bool.false_eq_true, eq_self, if_true, if_false, if_pos, if_neg, q4, q5, q7, z_sub]
          · simp (disch := omega) only [zl0, zl1, zl2, zl3, zl4, zl5, zl6, zl7, zl8, zl9, zl10, zl11, zl12, zl13, zl17, zl18, zl19, zl20, zl21, zl22, zl23, zl24, zl25, zl26, zl27, zl28, zl29, zl31, zl32, zl40, zl42, zl44, zl48, zl50, zl57, zl58, zl59, zl60, zl65, zl97, zl98, zl99, zl100, zl103, zl104, zl108, zl119, zl126, zl200, zl203, zl255, zl999, zl9999, zl720, zl232, z_add, z_le, z_lt, z_eq, z_clamp, z_in, z_m4, z_m4n, z_m1n, z_b0, z_b1, m_up_eq, m_up_ne, m_upd_eq, m_upd_ne, bd_s, op_s2, Bool.false_eq_true, eq_self, if_true, if_false, if_pos, if_neg, q4, q5, q7, z_sub]
        · rw [woF, wo1, k21, if_neg e0, if_neg e1]
          obtain ⟨r1, r2, r3, r4, r5, r6⟩ := hR'
          refine ⟨fun i hi => ?_, fun i g1 g2 => ?_, fun v hv => ?_, ?_, ?_, ?_⟩
          · rw [un_ne (show ¬ i = 21 + k by omega), un_ne (show ¬ 6 + i = 21 + k by omega), un_ne (show ¬ 12 + i = 21 + k by omega)]
            simp (disch := omega) only [m_up_ne]
            exact r1 i hi
          · simp (disch := omega) only [m_up_ne]
            exact r2 i g1 g2
          · obtain ⟨y1, y2, y3⟩ := r3 v hv
            rw [un_ne (show ¬ 18 + v = 21 + k by omega), un_ne (show ¬ 24 + v = 21 + k by omega)]
            simp (disch := omega) only [m_up_eq, m_up_ne]
            by_cases e : v = k
            · subst e
              rw [m_upd_eq, un_eq]
              exact ⟨y1, rfl, y3⟩
            · rw [m_upd_ne e, un_ne (by omega)]
              exact ⟨y1, y2, y3⟩
          · rw [m_up_ne (by omega)]; exact r4
          · rw [m_up_ne (by omega), un_ne (by omega)]; exact r5
          · rw [m_up_ne (by omega), un_ne (by omega)]; exact r6) (by
    rintro t ⟨s', rfl, hR', hF, h0⟩
    have q7 := hR'.2.2.2.1
    refine ⟨_, ?_, s', rfl, hR', hF, h0⟩
    dsimp only [f_X2_work_2]
    simp (disch := omega) only [zl0, zl1, zl2, zl3, zl4, zl5, zl6, zl7, zl8, zl9, zl10, zl11, zl12, zl13, zl17, zl18, zl19, zl20, zl21, zl22, zl23, zl24, zl25, zl26, zl27, zl28, zl29, zl31, zl32, zl40, zl42, zl44, zl48, zl50, zl57, zl58, zl59, zl60, zl65, zl97, zl98, zl99, zl100, zl103, zl104, zl108, zl119, zl126, zl200, zl203, zl255, zl999, zl9999, zl720, zl232, z_add, z_le, z_lt, z_eq, z_clamp, z_in, z_m4, z_m4n, z_m1n, z_b0, z_b1, m_up_eq, m_up_ne, m_upd_eq, m_upd_ne, bd_s, op_s2, Bool.false_eq_true, eq_self, if_true, if_false, if_pos, if_neg, q7])
  refine ⟨s', ?_, h3, h4, h5⟩
  subst h2
  unfold f_X2_work f_X2_work_65
  rw [op_some h1]
theorem X_goMinute {p σ : Nat → Nat} {s : fm_M} {a : Nat} (hp : PI p) (ha : 9 ≤ a) (hP : RP p s) (hR : RH p σ s a) (hH : HI p σ) : ∃ s', f_X2_goMinute a s = some (nI (paB p σ), s') ∧ RH p (paF p σ) s' a ∧ FH a s s' ∧ s' a 10 = s a 10 + 1 := by
  have hp0 := hp.2.2.1
  have hp1 := hp.2.2.2.2.1
  obtain ⟨s1, h1, h2, h3, h4⟩ := X_heat hp ha hP hR hH
  have hwi : ∀ w, w < p 1 → heF p σ (p 0) (18 + w) = σ (18 + w) ∧ heF p σ (p 0) (21 + w) = σ (21 + w) ∧ heF p σ (p 0) (24 + w) = σ (24 + w) := fun w hw => ⟨heF_hi hp0 (by omega), heF_hi hp0 (by omega), heF_hi hp0 (by omega)⟩
  obtain ⟨s2, g1, g2, g3, g4⟩ := X_work hp ha (hP.fh ha h3) h2 (heF_bd hp hH) (fun w hw h => by
    obtain ⟨e1, e2, e3⟩ := hwi w hw
    rw [e1] at h
    rw [e3]
    obtain ⟨i1, i2, i3, i4⟩ := (hH.2.2.1 w hw).2.2.1 h
    refine ⟨i3, ?_⟩
    rw [heF_b hp0 (by omega), if_pos i3, if_neg (fun q => by have := q.1.1; omega), if_neg (fun q => by have := q.1; omega)]
    exact (hH.2.1 _ i3).2.1 (by omega)) (fun w hw => by
    obtain ⟨e1, e2, e3⟩ := hwi w hw
    rw [e1, e2]
    obtain ⟨i1, i2, i3, i4⟩ := hH.2.2.1 w hw
    constructor
    · rintro (q | q)
      · exact (i3 q).1
      · exact (i4 q).1
    · intro q
      rcases (show σ (18 + w) = 0 ∨ σ (18 + w) = 3 ∨ σ (18 + w) = 1 ∨ σ (18 + w) = 2 by omega) with z | z | z | z
      · have := i2 (Or.inl z); omega
      · have := i2 (Or.inr z); omega
      · exact Or.inl z
      · exact Or.inr z)
  have c28 : woF (heF p σ (p 0)) (p 1) 28 = σ 28 := by
    rw [woF_keep (n := p 1) hp1 (fun w hw h => by
      rw [heF_hi hp0 (by omega)] at h ⊢
      exact HI.inH hp hH w hw h) _ (Nat.le_refl _) 28 (by omega) (by omega) (fun v hv => ⟨by omega, by omega, by omega⟩), heF_hi hp0 (by omega)]
  have e8 : s2 a 8 = nI (σ 28) := by rw [← c28]; exact g2.2.2.2.2.1
  have e10 : s2 a 10 = s a 10 := by rw [g4 10 (by omega), h4]
  refine ⟨fm_up (fm_up s2 a 8 (nI (σ 28 + 1))) a 10 (s a 10 + nI 1), ?_, ?_, ((h3.tr g3).tr (FH.up _ _ _ _ (by omega) (by omega))).tr (FH.up _ _ _ _ (by omega) (by omega)), by rw [m_up_eq, m_upd_eq]; rfl⟩
  · unfold f_X2_goMinute paB
    simp (disch := omega) only [zl0, zl1, zl2, zl3, zl4, zl5, zl6, zl7, zl8, zl9, zl10, zl11, zl12, zl13, zl17, zl18, zl19, zl20, zl21, zl22, zl23, zl24, zl25, zl26, zl27, zl28, zl29, zl31, zl32, zl40, zl42, zl44, zl48, zl50, zl57, zl58, zl59, zl60, zl65, zl97, zl98, zl99, zl100, zl103, zl104, zl108, zl119, zl126, zl200, zl203, zl255, zl999, zl9999, zl720, zl232, z_add, z_le, z_lt, z_eq, z_clamp, z_in, z_m4, z_m4n, z_m1n, z_b0, z_b1, m_up_eq, m_up_ne, m_upd_eq, m_upd_ne, bd_s, op_s2, Bool.false_eq_true, eq_self, if_true, if_false, if_pos, if_neg, h1, g1, e8, e10]
  · obtain ⟨r1, r2, r3, r4, r5, r6⟩ := g2
    unfold paF
    refine ⟨fun i hi => ?_, fun i g1 g2 => ?_, fun v hv => ?_, ?_, ?_, ?_⟩
    · rw [un_ne (show ¬ i = 28 by omega), un_ne (show ¬ 6 + i = 28 by omega), un_ne (show ¬ 12 + i = 28 by omega)]
      simp (disch := omega) only [m_up_ne]
      exact r1 i hi
    · simp (disch := omega) only [m_up_ne]
      exact r2 i g1 g2
    · rw [un_ne (show ¬ 18 + v = 28 by omega), un_ne (show ¬ 21 + v = 28 by omega), un_ne (show ¬ 24 + v = 28 by omega)]
      simp (disch := omega) only [m_up_ne]
      exact r3 v hv
    · simp (disch := omega) only [m_up_eq, m_upd_ne]
      exact r4
    · rw [un_eq]
      simp (disch := omega) only [m_up_eq, m_upd_ne, m_upd_eq]
    · rw [un_ne (by omega)]
      simp (disch := omega) only [m_up_eq, m_upd_ne]
      exact r6
