/-! asked: child, woman, count, kinds, takes -/
theorem whF_spec (σ : Nat → Nat) (c : Nat) : ∀ n, whF σ c n ≤ n ∧ (0 < whF σ c n → σ (18 + (whF σ c n - 1)) = 1 ∧ σ (24 + (whF σ c n - 1)) = c) ∧ ∀ v, whF σ c n ≤ v → v < n → ¬ (σ (18 + v) = 1 ∧ σ (24 + v) = c)
  | 0 => ⟨Nat.le_refl 0, fun h => by simp [whF] at h, fun v _ h => by omega⟩
  | n + 1 => by
    obtain ⟨h1, h2, h3⟩ := whF_spec σ c n
    unfold whF
    split
    · rename_i h
      exact ⟨by omega, fun _ => by simpa using h, fun v a b => by omega⟩
    · rename_i h
      refine ⟨by omega, h2, fun v a b => ?_⟩
      rcases (show v < n ∨ v = n by omega) with q | q
      · exact h3 v a q
      · subst q; exact h
theorem X_whoDresses {p σ : Nat → Nat} {s : fm_M} {a : Nat} (hp : PI p) (hR : RH p σ s a) (hH : HI p σ) (c : Nat) (hc : c < 1000) : f_X2_whoDresses a (nI c) s = some (enW σ c (p 1), s) := by
  have hp1 := hp.2.2.2.2.1
  have h := hR.2.2.2.1
  obtain ⟨c1, c2, c3⟩ := whF_spec σ c (p 1)
  have no : ∀ v, v < p 1 → (0 < whF σ c (p 1) → ¬ v = whF σ c (p 1) - 1) → ¬ (σ (18 + v) = 1 ∧ σ (24 + v) = c) := by
    rintro v hv hne ⟨q1, q2⟩
    by_cases e : 0 < whF σ c (p 1)
    · obtain ⟨r1, r2⟩ := c2 e
      exact hH.2.2.2.1 v (whF σ c (p 1) - 1) hv (by omega) (hne e) q1 r1 (by rw [q2, r2])
    · exact c3 v (by omega) hv ⟨q1, q2⟩
  have step : ∀ v, v < p 1 → ¬ (σ (18 + v) = 1 ∧ σ (24 + v) = c) → f_X2_whoDresses_2 a (nI c) s (nI v) = some (.inl (s, nI (v + 1))) := by
    intro v hv hn
    obtain ⟨q4, -, q6⟩ := hR.2.2.1 v hv
    have d18 := hH.1 (18 + v) (by omega)
    have d24 := hH.1 (24 + v) (by omega)
    unfold f_X2_whoDresses_2 f_X2_whoDresses_37
    by_cases e : σ (18 + v) = 1
    · have q6' := q6 e
      have e2 : ¬ σ (24 + v) = c := fun z => hn ⟨e, z⟩
      simp (disch := omega) only [zl0, zl1, zl2, zl3, zl4, zl5, zl6, zl7, zl8, zl9, zl10, zl11, zl12, zl13, zl17, zl18, zl19, zl20, zl21, zl22, zl23, zl24, zl25, zl26, zl27, zl28, zl29, zl31, zl32, zl40, zl42, zl44, zl48, zl50, zl57, zl58, zl59, zl60, zl65, zl97, zl98, zl99, zl100, zl103, zl104, zl108, zl119, zl126, zl200, zl203, zl255, zl999, zl9999, zl720, zl232, z_add, z_le, z_lt, z_eq, z_clamp, z_in, z_m4, z_m4n, z_m1n, z_b0, z_b1, m_up_eq, m_up_ne, m_upd_eq, m_upd_ne, bd_s, op_s2, Bool.false_eq_true, eq_self, if_true, if_false, if_pos, if_neg, h, q4, q6']
    · simp (disch := omega) only [zl0, zl1, zl2, zl3, zl4, zl5, zl6, zl7, zl8, zl9, zl10, zl11, zl12, zl13, zl17, zl18, zl19, zl20, zl21, zl22, zl23, zl24, zl25, zl26, zl27, zl28, zl29, zl31, zl32, zl40, zl42, zl44, zl48, zl50, zl57, zl58, zl59, zl60, zl65, zl97, zl98, zl99, zl100, zl103, zl104, zl108, zl119, zl126, zl200, zl203, zl255, zl999, zl9999, zl720, zl232, z_add, z_le, z_lt, z_eq, z_clamp, z_in, z_m4, z_m4n, z_m1n, z_b0, z_b1, m_up_eq, m_up_ne, m_upd_eq, m_upd_ne, bd_s, op_s2, Bool.false_eq_true, eq_self, if_true, if_false, if_pos, if_neg, h, q4]
  obtain ⟨x, h1, h2⟩ := it_go (body := fun (yy : fm_M × Int32) => f_X2_whoDresses_2 a (nI c) yy.1 yy.2) (fun k t => t = (s, nI k)) (fun x => x = if 0 < whF σ c (p 1) then .inl (nI (whF σ c (p 1) - 1), s) else .inr (s, nI (p 1))) (if 0 < whF σ c (p 1) then whF σ c (p 1) - 1 else p 1) (s, 0) (by split <;> omega) rfl (by
    rintro k t hk rfl
    left
    refine ⟨(s, nI (k + 1)), ?_, rfl⟩
    by_cases e : 0 < whF σ c (p 1)
    · rw [if_pos e] at hk
      exact step k (by omega) (no k (by omega) (fun _ => by omega))
    · rw [if_neg e] at hk
      exact step k hk (no k hk (fun q => absurd q e))) (by
    rintro t rfl
    refine ⟨_, ?_, rfl⟩
    by_cases e : 0 < whF σ c (p 1)
    · rw [if_pos e, if_pos e]
      obtain ⟨r1, r2⟩ := c2 e
      obtain ⟨q4, -, q6⟩ := hR.2.2.1 (whF σ c (p 1) - 1) (by omega)
      have q6' := q6 r1
      have d18 := hH.1 (18 + (whF σ c (p 1) - 1)) (by omega)
      have d24 := hH.1 (24 + (whF σ c (p 1) - 1)) (by omega)
      dsimp only [f_X2_whoDresses_2]
      simp (disch := omega) only [zl0, zl1, zl2, zl3, zl4, zl5, zl6, zl7, zl8, zl9, zl10, zl11, zl12, zl13, zl17, zl18, zl19, zl20, zl21, zl22, zl23, zl24, zl25, zl26, zl27, zl28, zl29, zl31, zl32, zl40, zl42, zl44, zl48, zl50, zl57, zl58, zl59, zl60, zl65, zl97, zl98, zl99, zl100, zl103, zl104, zl108, zl119, zl126, zl200, zl203, zl255, zl999, zl9999, zl720, zl232, z_add, z_le, z_lt, z_eq, z_clamp, z_in, z_m4, z_m4n, z_m1n, z_b0, z_b1, m_up_eq, m_up_ne, m_upd_eq, m_upd_ne, bd_s, op_s2, Bool.false_eq_true, eq_self, if_true, if_false, if_pos, if_neg, h, q4, q6']
    · rw [if_neg e, if_neg e]
      dsimp only [f_X2_whoDresses_2]
      simp (disch := omega) only [zl0, zl1, zl2, zl3, zl4, zl5, zl6, zl7, zl8, zl9, zl10, zl11, zl12, zl13, zl17, zl18, zl19, zl20, zl21, zl22, zl23, zl24, zl25, zl26, zl27, zl28, zl29, zl31, zl32, zl40, zl42, zl44, zl48, zl50, zl57, zl58, zl59, zl60, zl65, zl97, zl98, zl99, zl100, zl103, zl104, zl108, zl119, zl126, zl200, zl203, zl255, zl999, zl9999, zl720, zl232, z_add, z_le, z_lt, z_eq, z_clamp, z_in, z_m4, z_m4n, z_m1n, z_b0, z_b1, m_up_eq, m_up_ne, m_upd_eq, m_upd_ne, bd_s, op_s2, Bool.false_eq_true, eq_self, if_true, if_false, if_pos, if_neg, h])
  unfold f_X2_whoDresses enW
  rw [op_some h1, h2]
  by_cases e : 0 < whF σ c (p 1)
  · rw [if_pos e, if_pos e]; rfl
  · rw [if_neg e, if_neg e]; rfl
theorem R_child {k : Nat} {x m : fm_M} (h : Rel k x m) (hk : k < 1000) (v1 v2 : Int32) : Good k (f_X8_child v1 v2 x) (f_X9_child v1 v2 m) := by
  have hrel := h
  obtain ⟨p, σ, t, tn, H, hn, K, kn, sc, sn, sl, sq, ch, hI, hX, hM⟩ := h
  have hp := hI.1
  have hH := hI.2.1
  have hp0 := hp.2.2.1
  have hP := hX.1.1
  have hR := hX.2.1
  have hRM := hM.1
  have xc := X_hasChild hp hP.1 v1
  have mc := M_isChild hp hRM v1
  by_cases e1 : fm_in v1 (p 0) = true
  · rw [e1] at xc mc
    obtain ⟨c, hc, rfl⟩ := in_nI e1
    obtain ⟨w7, -⟩ := hP.2.2.2.2 c hc
    obtain ⟨r1, r2, r3⟩ := hR.1 c hc
    have s0 := hRM.2 c (by omega)
    have s6 := hRM.2 (6 + c) (by omega)
    have s12 := hRM.2 (12 + c) (by omega)
    have p5 := hRM.1 (5 + c) (by omega)
    have d0 := hH.1 c (by omega)
    have xw := X_whoDresses hp hR hH c (by omega)
    have mw := M_whoHas hp hRM hH c (by omega)
    have xm := X_minutesToDress hp hP hR.2.2.2.2.2 hH hc
    have mm := M_minutesOf hp hRM hH hc
    have r1' : x 10 c = nI (σ c) := r1
    have r3' : x 12 c = nI (σ (12 + c)) := r3
    by_cases b0 : v2 = 0
    · subst b0
      refine Good.same hrel hk (r := nI (p (5 + c))) ?_ ?_
      · unfold f_X8_child
        rw [bd_some xc, if_neg (by decide), if_pos rfl]
        simp (disch := omega) only [zl0, zl1, zl2, zl3, zl4, zl5, zl6, zl7, zl8, zl9, zl10, zl11, zl12, zl13, zl17, zl18, zl19, zl20, zl21, zl22, zl23, zl24, zl25, zl26, zl27, zl28, zl29, zl31, zl32, zl40, zl42, zl44, zl48, zl50, zl57, zl58, zl59, zl60, zl65, zl97, zl98, zl99, zl100, zl103, zl104, zl108, zl119, zl126, zl200, zl203, zl255, zl999, zl9999, zl720, zl232, z_add, z_le, z_lt, z_eq, z_clamp, z_in, z_m4, z_m4n, z_m1n, z_b0, z_b1, m_up_eq, m_up_ne, m_upd_eq, m_upd_ne, bd_s, op_s2, Bool.false_eq_true, eq_self, if_true, if_false, if_pos, if_neg, w7]
      · unfold f_X9_child
        rw [bd_some mc, if_neg (by decide), if_pos rfl]
        simp (disch := omega) only [zl0, zl1, zl2, zl3, zl4, zl5, zl6, zl7, zl8, zl9, zl10, zl11, zl12, zl13, zl17, zl18, zl19, zl20, zl21, zl22, zl23, zl24, zl25, zl26, zl27, zl28, zl29, zl31, zl32, zl40, zl42, zl44, zl48, zl50, zl57, zl58, zl59, zl60, zl65, zl97, zl98, zl99, zl100, zl103, zl104, zl108, zl119, zl126, zl200, zl203, zl255, zl999, zl9999, zl720, zl232, z_add, z_le, z_lt, z_eq, z_clamp, z_in, z_m4, z_m4n, z_m1n, z_b0, z_b1, m_up_eq, m_up_ne, m_upd_eq, m_upd_ne, bd_s, op_s2, Bool.false_eq_true, eq_self, if_true, if_false, if_pos, if_neg, p5]
    by_cases b1 : v2 = 1
    · subst b1
      refine Good.same hrel hk (r := nI (σ c)) ?_ ?_
      · unfold f_X8_child
        rw [bd_some xc, if_neg (by decide), if_neg b0, if_pos rfl]
        simp (disch := omega) only [zl0, zl1, zl2, zl3, zl4, zl5, zl6, zl7, zl8, zl9, zl10, zl11, zl12, zl13, zl17, zl18, zl19, zl20, zl21, zl22, zl23, zl24, zl25, zl26, zl27, zl28, zl29, zl31, zl32, zl40, zl42, zl44, zl48, zl50, zl57, zl58, zl59, zl60, zl65, zl97, zl98, zl99, zl100, zl103, zl104, zl108, zl119, zl126, zl200, zl203, zl255, zl999, zl9999, zl720, zl232, z_add, z_le, z_lt, z_eq, z_clamp, z_in, z_m4, z_m4n, z_m1n, z_b0, z_b1, m_up_eq, m_up_ne, m_upd_eq, m_upd_ne, bd_s, op_s2, Bool.false_eq_true, eq_self, if_true, if_false, if_pos, if_neg, r1']
      · unfold f_X9_child
        rw [bd_some mc, if_neg (by decide), if_neg b0, if_pos rfl]
        simp (disch := omega) only [zl0, zl1, zl2, zl3, zl4, zl5, zl6, zl7, zl8, zl9, zl10, zl11, zl12, zl13, zl17, zl18, zl19, zl20, zl21, zl22, zl23, zl24, zl25, zl26, zl27, zl28, zl29, zl31, zl32, zl40, zl42, zl44, zl48, zl50, zl57, zl58, zl59, zl60, zl65, zl97, zl98, zl99, zl100, zl103, zl104, zl108, zl119, zl126, zl200, zl203, zl255, zl999, zl9999, zl720, zl232, z_add, z_le, z_lt, z_eq, z_clamp, z_in, z_m4, z_m4n, z_m1n, z_b0, z_b1, m_up_eq, m_up_ne, m_upd_eq, m_upd_ne, bd_s, op_s2, Bool.false_eq_true, eq_self, if_true, if_false, if_pos, if_neg, s0]
    by_cases b2 : v2 = 2
    · subst b2
      by_cases e2 : σ c = 2
      · have r2' : x 11 c = nI (σ (6 + c)) := r2 e2
        refine Good.same hrel hk (r := nI (σ (6 + c))) ?_ ?_
        · unfold f_X8_child f_X8_child_99
          rw [bd_some xc, if_neg (by decide), if_neg b0, if_neg b1, if_pos rfl]
          simp (disch := omega) only [zl0, zl1, zl2, zl3, zl4, zl5, zl6, zl7, zl8, zl9, zl10, zl11, zl12, zl13, zl17, zl18, zl19, zl20, zl21, zl22, zl23, zl24, zl25, zl26, zl27, zl28, zl29, zl31, zl32, zl40, zl42, zl44, zl48, zl50, zl57, zl58, zl59, zl60, zl65, zl97, zl98, zl99, zl100, zl103, zl104, zl108, zl119, zl126, zl200, zl203, zl255, zl999, zl9999, zl720, zl232, z_add, z_le, z_lt, z_eq, z_clamp, z_in, z_m4, z_m4n, z_m1n, z_b0, z_b1, m_up_eq, m_up_ne, m_upd_eq, m_upd_ne, bd_s, op_s2, Bool.false_eq_true, eq_self, if_true, if_false, if_pos, if_neg, r1', r2']
        · unfold f_X9_child f_X9_child_88
          rw [bd_some mc, if_neg (by decide), if_neg b0, if_neg b1, if_pos rfl]
          simp (disch := omega) only [zl0, zl1, zl2, zl3, zl4, zl5, zl6, zl7, zl8, zl9, zl10, zl11, zl12, zl13, zl17, zl18, zl19, zl20, zl21, zl22, zl23, zl24, zl25, zl26, zl27, zl28, zl29, zl31, zl32, zl40, zl42, zl44, zl48, zl50, zl57, zl58, zl59, zl60, zl65, zl97, zl98, zl99, zl100, zl103, zl104, zl108, zl119, zl126, zl200, zl203, zl255, zl999, zl9999, zl720, zl232, z_add, z_le, z_lt, z_eq, z_clamp, z_in, z_m4, z_m4n, z_m1n, z_b0, z_b1, m_up_eq, m_up_ne, m_upd_eq, m_upd_ne, bd_s, op_s2, Bool.false_eq_true, eq_self, if_true, if_false, if_pos, if_neg, s0, s6]
      · refine Good.same hrel hk (r := -4) ?_ ?_
        · unfold f_X8_child f_X8_child_99
          rw [bd_some xc, if_neg (by decide), if_neg b0, if_neg b1, if_pos rfl]
          simp (disch := omega) only [zl0, zl1, zl2, zl3, zl4, zl5, zl6, zl7, zl8, zl9, zl10, zl11, zl12, zl13, zl17, zl18, zl19, zl20, zl21, zl22, zl23, zl24, zl25, zl26, zl27, zl28, zl29, zl31, zl32, zl40, zl42, zl44, zl48, zl50, zl57, zl58, zl59, zl60, zl65, zl97, zl98, zl99, zl100, zl103, zl104, zl108, zl119, zl126, zl200, zl203, zl255, zl999, zl9999, zl720, zl232, z_add, z_le, z_lt, z_eq, z_clamp, z_in, z_m4, z_m4n, z_m1n, z_b0, z_b1, m_up_eq, m_up_ne, m_upd_eq, m_upd_ne, bd_s, op_s2, Bool.false_eq_true, eq_self, if_true, if_false, if_pos, if_neg, r1']
        · unfold f_X9_child f_X9_child_88
          rw [bd_some mc, if_neg (by decide), if_neg b0, if_neg b1, if_pos rfl]
          simp (disch := omega) only [zl0, zl1, zl2, zl3, zl4, zl5, zl6, zl7, zl8, zl9, zl10, zl11, zl12, zl13, zl17, zl18, zl19, zl20, zl21, zl22, zl23, zl24, zl25, zl26, zl27, zl28, zl29, zl31, zl32, zl40, zl42, zl44, zl48, zl50, zl57, zl58, zl59, zl60, zl65, zl97, zl98, zl99, zl100, zl103, zl104, zl108, zl119, zl126, zl200, zl203, zl255, zl999, zl9999, zl720, zl232, z_add, z_le, z_lt, z_eq, z_clamp, z_in, z_m4, z_m4n, z_m1n, z_b0, z_b1, m_up_eq, m_up_ne, m_upd_eq, m_upd_ne, bd_s, op_s2, Bool.false_eq_true, eq_self, if_true, if_false, if_pos, if_neg, s0]
    by_cases b3 : v2 = 3
    · subst b3
      refine Good.same hrel hk (r := enW σ c (p 1)) ?_ ?_
      · unfold f_X8_child
        rw [bd_some xc, if_neg (by decide), if_neg b0, if_neg b1, if_neg b2, if_pos rfl, bd_some xw]
      · unfold f_X9_child
        rw [bd_some mc, if_neg (by decide), if_neg b0, if_neg b1, if_neg b2, if_pos rfl, bd_some mw]
    by_cases b4 : v2 = 4
    · subst b4
      refine Good.same hrel hk (r := nI (minsOf p σ c)) ?_ ?_
      · unfold f_X8_child
        rw [bd_some xc, if_neg (by decide), if_neg b0, if_neg b1, if_neg b2, if_neg b3, if_pos rfl, bd_some xm]
      · unfold f_X9_child
        rw [bd_some mc, if_neg (by decide), if_neg b0, if_neg b1, if_neg b2, if_neg b3, if_pos rfl, bd_some mm]
    by_cases b5 : v2 = 5
    · subst b5
      refine Good.same hrel hk (r := nI (σ (12 + c))) ?_ ?_
      · unfold f_X8_child
        rw [bd_some xc, if_neg (by decide), if_neg b0, if_neg b1, if_neg b2, if_neg b3, if_neg b4, if_pos rfl]
        simp (disch := omega) only [zl0, zl1, zl2, zl3, zl4, zl5, zl6, zl7, zl8, zl9, zl10, zl11, zl12, zl13, zl17, zl18, zl19, zl20, zl21, zl22, zl23, zl24, zl25, zl26, zl27, zl28, zl29, zl31, zl32, zl40, zl42, zl44, zl48, zl50, zl57, zl58, zl59, zl60, zl65, zl97, zl98, zl99, zl100, zl103, zl104, zl108, zl119, zl126, zl200, zl203, zl255, zl999, zl9999, zl720, zl232, z_add, z_le, z_lt, z_eq, z_clamp, z_in, z_m4, z_m4n, z_m1n, z_b0, z_b1, m_up_eq, m_up_ne, m_upd_eq, m_upd_ne, bd_s, op_s2, Bool.false_eq_true, eq_self, if_true, if_false, if_pos, if_neg, r3']
      · unfold f_X9_child
        rw [bd_some mc, if_neg (by decide), if_neg b0, if_neg b1, if_neg b2, if_neg b3, if_neg b4, if_pos rfl]
        simp (disch := omega) only [zl0, zl1, zl2, zl3, zl4, zl5, zl6, zl7, zl8, zl9, zl10, zl11, zl12, zl13, zl17, zl18, zl19, zl20, zl21, zl22, zl23, zl24, zl25, zl26, zl27, zl28, zl29, zl31, zl32, zl40, zl42, zl44, zl48, zl50, zl57, zl58, zl59, zl60, zl65, zl97, zl98, zl99, zl100, zl103, zl104, zl108, zl119, zl126, zl200, zl203, zl255, zl999, zl9999, zl720, zl232, z_add, z_le, z_lt, z_eq, z_clamp, z_in, z_m4, z_m4n, z_m1n, z_b0, z_b1, m_up_eq, m_up_ne, m_upd_eq, m_upd_ne, bd_s, op_s2, Bool.false_eq_true, eq_self, if_true, if_false, if_pos, if_neg, s12]
    refine Good.same hrel hk (r := -1) ?_ ?_
    · unfold f_X8_child
      rw [bd_some xc, if_neg (by decide), if_neg b0, if_neg b1, if_neg b2, if_neg b3, if_neg b4, if_neg b5]
    · unfold f_X9_child
      rw [bd_some mc, if_neg (by decide), if_neg b0, if_neg b1, if_neg b2, if_neg b3, if_neg b4, if_neg b5]
  · rw [Bool.not_eq_true] at e1
    rw [e1] at xc mc
    refine Good.same hrel hk (r := -1) ?_ ?_
    · unfold f_X8_child
      rw [bd_some xc, if_pos (by decide)]
    · unfold f_X9_child
      rw [bd_some mc, if_pos (by decide)]
theorem in01 (v : Int32) : (decide ((0 : Int32) ≤ v) && decide (v ≤ (1 : Int32))) = true ↔ v = 0 ∨ v = 1 := by
  rw [Bool.and_eq_true, decide_eq_true_eq, decide_eq_true_eq]
  constructor
  · rintro ⟨h1, h2⟩
    obtain ⟨n, n1, n2, rfl⟩ := z_rng (a := 0) (b := 1) (by omega) (by omega) h1 h2
    rcases (show n = 0 ∨ n = 1 by omega) with rfl | rfl
    · exact Or.inl rfl
    · exact Or.inr rfl
  · rintro (rfl | rfl) <;> exact ⟨by decide, by decide⟩
theorem R_woman {k : Nat} {x m : fm_M} (h : Rel k x m) (hk : k < 1000) (v1 v2 : Int32) : Good k (f_X8_woman v1 v2 x) (f_X9_woman v1 v2 m) := by
  have hrel := h
  obtain ⟨p, σ, t, tn, H, hn, K, kn, sc, sn, sl, sq, ch, hI, hX, hM⟩ := h
  have hp := hI.1
  have hp1 := hp.2.2.2.2.1
  have hR := hX.2.1
  have hRM := hM.1
  have xw := X_hasWoman hp hR v1
  have mw := M_isWoman hp hRM v1
  have mi := M_in v2 0 1 m
  by_cases e1 : fm_in v1 (p 1) = true
  · rw [e1] at xw mw
    obtain ⟨w, hw, rfl⟩ := in_nI e1
    obtain ⟨r4, r5, -⟩ := hR.2.2.1 w hw
    have r4' : x 13 w = nI (σ (18 + w)) := r4
    have r5' : x 14 w = nI (σ (21 + w)) := r5
    have s18 := hRM.2 (18 + w) (by omega)
    have s21 := hRM.2 (21 + w) (by omega)
    by_cases b0 : v2 = 0
    · subst b0
      refine Good.same hrel hk (r := nI (σ (18 + w))) ?_ ?_
      · unfold f_X8_woman
        rw [bd_some xw, if_neg (by decide), if_pos rfl]
        simp (disch := omega) only [zl0, zl1, zl2, zl3, zl4, zl5, zl6, zl7, zl8, zl9, zl10, zl11, zl12, zl13, zl17, zl18, zl19, zl20, zl21, zl22, zl23, zl24, zl25, zl26, zl27, zl28, zl29, zl31, zl32, zl40, zl42, zl44, zl48, zl50, zl57, zl58, zl59, zl60, zl65, zl97, zl98, zl99, zl100, zl103, zl104, zl108, zl119, zl126, zl200, zl203, zl255, zl999, zl9999, zl720, zl232, z_add, z_le, z_lt, z_eq, z_clamp, z_in, z_m4, z_m4n, z_m1n, z_b0, z_b1, m_up_eq, m_up_ne, m_upd_eq, m_upd_ne, bd_s, op_s2, Bool.false_eq_true, eq_self, if_true, if_false, if_pos, if_neg, r4']
      · unfold f_X9_woman f_X9_woman_36 f_X9_woman_39
        rw [bd_some mw, if_neg (by decide), bd_some mi, if_neg (by decide), if_pos rfl]
        simp (disch := omega) only [zl0, zl1, zl2, zl3, zl4, zl5, zl6, zl7, zl8, zl9, zl10, zl11, zl12, zl13, zl17, zl18, zl19, zl20, zl21, zl22, zl23, zl24, zl25, zl26, zl27, zl28, zl29, zl31, zl32, zl40, zl42, zl44, zl48, zl50, zl57, zl58, zl59, zl60, zl65, zl97, zl98, zl99, zl100, zl103, zl104, zl108, zl119, zl126, zl200, zl203, zl255, zl999, zl9999, zl720, zl232, z_add, z_le, z_lt, z_eq, z_clamp, z_in, z_m4, z_m4n, z_m1n, z_b0, z_b1, m_up_eq, m_up_ne, m_upd_eq, m_upd_ne, bd_s, op_s2, Bool.false_eq_true, eq_self, if_true, if_false, if_pos, if_neg, s18]
    by_cases b1 : v2 = 1
    · subst b1
      refine Good.same hrel hk (r := nI (σ (21 + w))) ?_ ?_
      · unfold f_X8_woman
        rw [bd_some xw, if_neg (by decide), if_neg b0, if_pos rfl]
        simp (disch := omega) only [zl0, zl1, zl2, zl3, zl4, zl5, zl6, zl7, zl8, zl9, zl10, zl11, zl12, zl13, zl17, zl18, zl19, zl20, zl21, zl22, zl23, zl24, zl25, zl26, zl27, zl28, zl29, zl31, zl32, zl40, zl42, zl44, zl48, zl50, zl57, zl58, zl59, zl60, zl65, zl97, zl98, zl99, zl100, zl103, zl104, zl108, zl119, zl126, zl200, zl203, zl255, zl999, zl9999, zl720, zl232, z_add, z_le, z_lt, z_eq, z_clamp, z_in, z_m4, z_m4n, z_m1n, z_b0, z_b1, m_up_eq, m_up_ne, m_upd_eq, m_upd_ne, bd_s, op_s2, Bool.false_eq_true, eq_self, if_true, if_false, if_pos, if_neg, r5']
      · unfold f_X9_woman f_X9_woman_36 f_X9_woman_39
        rw [bd_some mw, if_neg (by decide), bd_some mi, if_neg (by decide), if_neg b0]
        simp (disch := omega) only [zl0, zl1, zl2, zl3, zl4, zl5, zl6, zl7, zl8, zl9, zl10, zl11, zl12, zl13, zl17, zl18, zl19, zl20, zl21, zl22, zl23, zl24, zl25, zl26, zl27, zl28, zl29, zl31, zl32, zl40, zl42, zl44, zl48, zl50, zl57, zl58, zl59, zl60, zl65, zl97, zl98, zl99, zl100, zl103, zl104, zl108, zl119, zl126, zl200, zl203, zl255, zl999, zl9999, zl720, zl232, z_add, z_le, z_lt, z_eq, z_clamp, z_in, z_m4, z_m4n, z_m1n, z_b0, z_b1, m_up_eq, m_up_ne, m_upd_eq, m_upd_ne, bd_s, op_s2, Bool.false_eq_true, eq_self, if_true, if_false, if_pos, if_neg, s21]
    have e2 : (decide ((0 : Int32) ≤ v2) && decide (v2 ≤ (1 : Int32))) = false := by
      rw [← Bool.not_eq_true, in01]; exact fun q => q.elim b0 b1
    rw [e2] at mi
    refine Good.same hrel hk (r := -1) ?_ ?_
    · unfold f_X8_woman
      rw [bd_some xw, if_neg (by decide), if_neg b0, if_neg b1]
    · unfold f_X9_woman f_X9_woman_17 f_X9_woman_39
      rw [bd_some mw, if_neg (by decide), bd_some mi, if_pos (by decide)]
  · rw [Bool.not_eq_true] at e1
    rw [e1] at xw mw
    refine Good.same hrel hk (r := -1) ?_ ?_
    · unfold f_X8_woman
      rw [bd_some xw, if_pos (by decide)]
    · unfold f_X9_woman f_X9_woman_17 f_X9_woman_39
      rw [bd_some mw, if_pos (by decide)]
def bsum (σ : Nat → Nat) : Nat → Nat
  | 0 => 0
  | n + 1 => bsum σ n + σ (12 + n)
theorem X_boiledInAll {p σ : Nat → Nat} {s : fm_M} {a : Nat} (hp : PI p) (hR : RH p σ s a) : f_X2_boiledInAll a s = some (nI (bsum σ (p 0)), s) := by
  have hp0 := hp.2.2.1
  obtain ⟨x, h1, h2⟩ := it_go (body := fun (yy : fm_M × Int32 × Int32) => f_X2_boiledInAll_4 a yy.1 yy.2.1 yy.2.2) (fun k t => t = (s, nI (bsum σ (if k < p 0 then k else p 0)), nI k)) (fun x => x = (s, nI (bsum σ (p 0)), nI 6)) 6 (s, 0, 0) (by omega) (by
    have : (if 0 < p 0 then 0 else p 0) = 0 := by split <;> omega
    rw [this]; rfl) (by
    rintro k t hk rfl
    left
    refine ⟨_, ?_, rfl⟩
    dsimp only [f_X2_boiledInAll_4]
    by_cases e : k < p 0
    · have r3 := (hR.1 k e).2.2
      have e2 : (if k + 1 < p 0 then k + 1 else p 0) = k + 1 := by split <;> omega
      rw [if_pos e, e2]
      simp (disch := omega) only [zl0, zl1, zl2, zl3, zl4, zl5, zl6, zl7, zl8, zl9, zl10, zl11, zl12, zl13, zl17, zl18, zl19, zl20, zl21, zl22, zl23, zl24, zl25, zl26, zl27, zl28, zl29, zl31, zl32, zl40, zl42, zl44, zl48, zl50, zl57, zl58, zl59, zl60, zl65, zl97, zl98, zl99, zl100, zl103, zl104, zl108, zl119, zl126, zl200, zl203, zl255, zl999, zl9999, zl720, zl232, z_add, z_le, z_lt, z_eq, z_clamp, z_in, z_m4, z_m4n, z_m1n, z_b0, z_b1, m_up_eq, m_up_ne, m_upd_eq, m_upd_ne, bd_s, op_s2, Bool.false_eq_true, eq_self, if_true, if_false, if_pos, if_neg, r3, bsum]
    · have r3 := hR.2.1 k (by omega) hk
      have e2 : (if k + 1 < p 0 then k + 1 else p 0) = p 0 := by split <;> omega
      rw [if_neg e, e2]
      simp (disch := omega) only [zl0, zl1, zl2, zl3, zl4, zl5, zl6, zl7, zl8, zl9, zl10, zl11, zl12, zl13, zl17, zl18, zl19, zl20, zl21, zl22, zl23, zl24, zl25, zl26, zl27, zl28, zl29, zl31, zl32, zl40, zl42, zl44, zl48, zl50, zl57, zl58, zl59, zl60, zl65, zl97, zl98, zl99, zl100, zl103, zl104, zl108, zl119, zl126, zl200, zl203, zl255, zl999, zl9999, zl720, zl232, z_add, z_le, z_lt, z_eq, z_clamp, z_in, z_m4, z_m4n, z_m1n, z_b0, z_b1, m_up_eq, m_up_ne, m_upd_eq, m_upd_ne, bd_s, op_s2, Bool.false_eq_true, eq_self, if_true, if_false, if_pos, if_neg, r3, Nat.add_zero]) (by
    rintro t rfl
    refine ⟨(s, nI (bsum σ (p 0)), nI 6), ?_, rfl⟩
    have e2 : (if 6 < p 0 then 6 else p 0) = p 0 := by split <;> omega
    dsimp only [f_X2_boiledInAll_4]
    rw [e2]
    simp (disch := omega) only [zl0, zl1, zl2, zl3, zl4, zl5, zl6, zl7, zl8, zl9, zl10, zl11, zl12, zl13, zl17, zl18, zl19, zl20, zl21, zl22, zl23, zl24, zl25, zl26, zl27, zl28, zl29, zl31, zl32, zl40, zl42, zl44, zl48, zl50, zl57, zl58, zl59, zl60, zl65, zl97, zl98, zl99, zl100, zl103, zl104, zl108, zl119, zl126, zl200, zl203, zl255, zl999, zl9999, zl720, zl232, z_add, z_le, z_lt, z_eq, z_clamp, z_in, z_m4, z_m4n, z_m1n, z_b0, z_b1, m_up_eq, m_up_ne, m_upd_eq, m_upd_ne, bd_s, op_s2, Bool.false_eq_true, eq_self, if_true, if_false, if_pos, if_neg])
  subst h2
  unfold f_X2_boiledInAll
  rw [op_some h1]
theorem M_boils {p σ : Nat → Nat} {m : fm_M} (hp : PI p) (hR : RM p σ m) (v : Int32) : fm_it (fun (yy : fm_M × Int32 × Int32) => f_X9_count_4 v yy.1 yy.2.1 yy.2.2) fm_fu (m, 0, 0) = some (m, nI (bsum σ (p 0)), nI (p 0)) := by
  have hp0 := hp.2.2.1
  have a0 := hR.1 0 (by omega)
  obtain ⟨x, h1, h2⟩ := it_go (body := fun (yy : fm_M × Int32 × Int32) => f_X9_count_4 v yy.1 yy.2.1 yy.2.2) (fun k t => t = (m, nI (bsum σ k), nI k)) (fun x => x = (m, nI (bsum σ (p 0)), nI (p 0))) (p 0) (m, 0, 0) (by omega) rfl (by
    rintro k t hk rfl
    left
    have s12 := hR.2 (12 + k) (by omega)
    refine ⟨_, ?_, rfl⟩
    dsimp only [f_X9_count_4]
    simp (disch := omega) only [zl0, zl1, zl2, zl3, zl4, zl5, zl6, zl7, zl8, zl9, zl10, zl11, zl12, zl13, zl17, zl18, zl19, zl20, zl21, zl22, zl23, zl24, zl25, zl26, zl27, zl28, zl29, zl31, zl32, zl40, zl42, zl44, zl48, zl50, zl57, zl58, zl59, zl60, zl65, zl97, zl98, zl99, zl100, zl103, zl104, zl108, zl119, zl126, zl200, zl203, zl255, zl999, zl9999, zl720, zl232, z_add, z_le, z_lt, z_eq, z_clamp, z_in, z_m4, z_m4n, z_m1n, z_b0, z_b1, m_up_eq, m_up_ne, m_upd_eq, m_upd_ne, bd_s, op_s2, Bool.false_eq_true, eq_self, if_true, if_false, if_pos, if_neg, a0, s12, bsum]) (by
    rintro t rfl
    refine ⟨_, ?_, rfl⟩
    dsimp only [f_X9_count_4]
    simp (disch := omega) only [zl0, zl1, zl2, zl3, zl4, zl5, zl6, zl7, zl8, zl9, zl10, zl11, zl12, zl13, zl17, zl18, zl19, zl20, zl21, zl22, zl23, zl24, zl25, zl26, zl27, zl28, zl29, zl31, zl32, zl40, zl42, zl44, zl48, zl50, zl57, zl58, zl59, zl60, zl65, zl97, zl98, zl99, zl100, zl103, zl104, zl108, zl119, zl126, zl200, zl203, zl255, zl999, zl9999, zl720, zl232, z_add, z_le, z_lt, z_eq, z_clamp, z_in, z_m4, z_m4n, z_m1n, z_b0, z_b1, m_up_eq, m_up_ne, m_upd_eq, m_upd_ne, bd_s, op_s2, Bool.false_eq_true, eq_self, if_true, if_false, if_pos, if_neg, a0])
  rw [h1, h2]
theorem R_count {k : Nat} {x m : fm_M} (h : Rel k x m) (hk : k < 1000) (v1 : Int32) : Good k (f_X8_count v1 x) (f_X9_count v1 m) := by
  have hrel := h
  obtain ⟨p, σ, t, tn, H, hn, K, kn, sc, sn, sl, sq, ch, hI, hX, hM⟩ := h
  have hp := hI.1
  have hH := hI.2.1
  have hp1 := hp.2.2.2.2.1
  have hP := hX.1.1
  have hR := hX.2.1
  have hRM := hM.1
  have it := M_boils hp hRM v1
  have a0 := hRM.1 0 (by omega)
  have a1 := hRM.1 1 (by omega)
  have s28 := hRM.2 28 (by omega)
  have s27 := hRM.2 27 (by omega)
  have d27 := hH.2.2.2.2.1
  have xc : ∀ j, j < 4 → f_X2_countChildren 9 (nI j) x = some (nI (hc σ 0 j (p 0)), x) := fun j hj => X_countChildren hp hP hR hH j (by omega)
  have mc : ∀ j, j < 4 → f_X9_children (nI j) m = some (nI (hc σ 0 j (p 0)), m) := fun j hj => M_children hp hRM hH j (by omega)
  have xw : f_X2_countWomen 9 (nI 0) x = some (nI (hc σ 18 0 (p 1)), x) := X_countWomen hp hR hH 0 (by omega)
  have mw : f_X9_how (nI 18) (nI (p 1)) (nI 0) m = some (nI (hc σ 18 0 (p 1)), m) := M_how hRM.2 hH.1 18 (p 1) 0 (by omega) (by omega)
  have xb := X_boiledInAll hp hR
  have x16 : x 16 2 = nI hn := by obtain ⟨_, _, _, _, q, _⟩ := hX.2.2.2.1; exact q
  have x74 : x 74 2 = nI kn := by obtain ⟨_, _, _, _, q, _⟩ := hX.2.2.2.2.1; exact q
  unfold f_X9_count f_X8_count
  rw [show (0 : Int32) = nI 0 from rfl] at it ⊢
  rw [op_some it]
  dsimp only
  by_cases b0 : v1 = nI 0
  · rw [if_pos b0, if_pos b0]
    exact Good.same hrel hk (r := nI (p 0)) (by rw [hP.1]) (by simp (disch := omega) only [zl0, zl1, zl2, zl3, zl4, zl5, zl6, zl7, zl8, zl9, zl10, zl11, zl12, zl13, zl17, zl18, zl19, zl20, zl21, zl22, zl23, zl24, zl25, zl26, zl27, zl28, zl29, zl31, zl32, zl40, zl42, zl44, zl48, zl50, zl57, zl58, zl59, zl60, zl65, zl97, zl98, zl99, zl100, zl103, zl104, zl108, zl119, zl126, zl200, zl203, zl255, zl999, zl9999, zl720, zl232, z_add, z_le, z_lt, z_eq, z_clamp, z_in, z_m4, z_m4n, z_m1n, z_b0, z_b1, m_up_eq, m_up_ne, m_upd_eq, m_upd_ne, bd_s, op_s2, Bool.false_eq_true, eq_self, if_true, if_false, if_pos, if_neg, a0])
  rw [if_neg b0, if_neg b0]
  by_cases b1 : v1 = 1
  · rw [if_pos b1, if_pos b1]
    exact Good.same hrel hk (r := nI (p 1)) (by rw [hR.2.2.2.1]) (by simp (disch := omega) only [zl0, zl1, zl2, zl3, zl4, zl5, zl6, zl7, zl8, zl9, zl10, zl11, zl12, zl13, zl17, zl18, zl19, zl20, zl21, zl22, zl23, zl24, zl25, zl26, zl27, zl28, zl29, zl31, zl32, zl40, zl42, zl44, zl48, zl50, zl57, zl58, zl59, zl60, zl65, zl97, zl98, zl99, zl100, zl103, zl104, zl108, zl119, zl126, zl200, zl203, zl255, zl999, zl9999, zl720, zl232, z_add, z_le, z_lt, z_eq, z_clamp, z_in, z_m4, z_m4n, z_m1n, z_b0, z_b1, m_up_eq, m_up_ne, m_upd_eq, m_upd_ne, bd_s, op_s2, Bool.false_eq_true, eq_self, if_true, if_false, if_pos, if_neg, a1])
  rw [if_neg b1, if_neg b1]
  by_cases b2 : v1 = 2
  · rw [if_pos b2, if_pos b2]
    exact Good.same hrel hk (r := nI (σ 28)) (by rw [hR.2.2.2.2.1]) (by simp (disch := omega) only [zl0, zl1, zl2, zl3, zl4, zl5, zl6, zl7, zl8, zl9, zl10, zl11, zl12, zl13, zl17, zl18, zl19, zl20, zl21, zl22, zl23, zl24, zl25, zl26, zl27, zl28, zl29, zl31, zl32, zl40, zl42, zl44, zl48, zl50, zl57, zl58, zl59, zl60, zl65, zl97, zl98, zl99, zl100, zl103, zl104, zl108, zl119, zl126, zl200, zl203, zl255, zl999, zl9999, zl720, zl232, z_add, z_le, z_lt, z_eq, z_clamp, z_in, z_m4, z_m4n, z_m1n, z_b0, z_b1, m_up_eq, m_up_ne, m_upd_eq, m_upd_ne, bd_s, op_s2, Bool.false_eq_true, eq_self, if_true, if_false, if_pos, if_neg, s28])
  rw [if_neg b2, if_neg b2]
  by_cases b3 : v1 = 3
  · rw [if_pos b3, if_pos b3, bd_some (xc 0 (by omega)), bd_some (mc 0 (by omega))]
    exact Good.same hrel hk rfl rfl
  rw [if_neg b3, if_neg b3]
  by_cases b4 : v1 = 4
  · rw [if_pos b4, if_pos b4, bd_some (show f_X2_countChildren 9 (1 : Int32) x = _ from xc 1 (by omega)), bd_some (show f_X9_children (1 : Int32) m = _ from mc 1 (by omega))]
    exact Good.same hrel hk rfl rfl
  rw [if_neg b4, if_neg b4]
  by_cases b5 : v1 = 5
  · rw [if_pos b5, if_pos b5, bd_some (show f_X2_countChildren 9 (2 : Int32) x = _ from xc 2 (by omega)), bd_some (show f_X9_children (2 : Int32) m = _ from mc 2 (by omega))]
    exact Good.same hrel hk rfl rfl
  rw [if_neg b5, if_neg b5]
  by_cases b6 : v1 = 6
  · rw [if_pos b6, if_pos b6, bd_some (show f_X2_countChildren 9 (3 : Int32) x = _ from xc 3 (by omega)), bd_some (show f_X9_children (3 : Int32) m = _ from mc 3 (by omega))]
    exact Good.same hrel hk rfl rfl
  rw [if_neg b6, if_neg b6]
  by_cases b7 : v1 = 7
  · rw [if_pos b7, if_pos b7, bd_some xw]
    exact Good.same hrel hk (r := nI (hc σ 18 0 (p 1))) rfl (by simp (disch := omega) only [zl0, zl1, zl2, zl3, zl4, zl5, zl6, zl7, zl8, zl9, zl10, zl11, zl12, zl13, zl17, zl18, zl19, zl20, zl21, zl22, zl23, zl24, zl25, zl26, zl27, zl28, zl29, zl31, zl32, zl40, zl42, zl44, zl48, zl50, zl57, zl58, zl59, zl60, zl65, zl97, zl98, zl99, zl100, zl103, zl104, zl108, zl119, zl126, zl200, zl203, zl255, zl999, zl9999, zl720, zl232, z_add, z_le, z_lt, z_eq, z_clamp, z_in, z_m4, z_m4n, z_m1n, z_b0, z_b1, m_up_eq, m_up_ne, m_upd_eq, m_upd_ne, bd_s, op_s2, Bool.false_eq_true, eq_self, if_true, if_false, if_pos, if_neg, a1, mw])
  rw [if_neg b7, if_neg b7]
  by_cases b8 : v1 = 8
  · rw [if_pos b8, if_pos b8]
    refine Good.same hrel hk (r := nI (σ 27)) ?_ (by simp (disch := omega) only [zl0, zl1, zl2, zl3, zl4, zl5, zl6, zl7, zl8, zl9, zl10, zl11, zl12, zl13, zl17, zl18, zl19, zl20, zl21, zl22, zl23, zl24, zl25, zl26, zl27, zl28, zl29, zl31, zl32, zl40, zl42, zl44, zl48, zl50, zl57, zl58, zl59, zl60, zl65, zl97, zl98, zl99, zl100, zl103, zl104, zl108, zl119, zl126, zl200, zl203, zl255, zl999, zl9999, zl720, zl232, z_add, z_le, z_lt, z_eq, z_clamp, z_in, z_m4, z_m4n, z_m1n, z_b0, z_b1, m_up_eq, m_up_ne, m_upd_eq, m_upd_ne, bd_s, op_s2, Bool.false_eq_true, eq_self, if_true, if_false, if_pos, if_neg, s27])
    unfold f_X8_count_156
    rw [hR.2.2.2.2.2]
    rcases (show σ 27 = 0 ∨ σ 27 = 1 by omega) with e | e
    · rw [e, if_pos rfl]
    · rw [e, if_neg (by decide)]; rfl
  rw [if_neg b8, if_neg b8]
  by_cases b9 : v1 = 9
  · rw [if_pos b9, if_pos b9, bd_some xb]
    exact Good.same hrel hk rfl rfl
  rw [if_neg b9, if_neg b9]
  by_cases b10 : v1 = 10
  · rw [if_pos b10, if_pos b10]
    exact Good.same hrel hk (r := nI sq) (by rw [hX.2.2.2.2.2.1.1]) (by rw [hM.2.2.2.2.1])
  rw [if_neg b10, if_neg b10]
  by_cases b11 : v1 = 11
  · rw [if_pos b11, if_pos b11]
    exact Good.same hrel hk (r := nI hn) (by rw [x16]) (by rw [hM.2.2.1.2.1])
  rw [if_neg b11, if_neg b11]
  by_cases b12 : v1 = 12
  · rw [if_pos b12, if_pos b12]
    exact Good.same hrel hk (r := nI kn) (by rw [x74]) (by rw [hM.2.2.2.1.2.1])
  rw [if_neg b12, if_neg b12]
  by_cases b13 : v1 = 13
  · rw [if_pos b13, if_pos b13]
    exact Good.same hrel hk (r := nI tn) (by rw [hX.2.2.1.1]) (by rw [hM.2.1.1])
  rw [if_neg b13, if_neg b13]
  exact Good.same hrel hk rfl rfl
