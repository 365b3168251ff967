/-! copies of halls; how it goes on, in the class -/
theorem m_cp_eq {s : fm_M} {c sp d dp n : Nat} : fm_cp s c sp d dp n d = va_cpy (s c) (s d) sp dp n := by unfold fm_cp; exact fm_st_eq
theorem m_cp_ne {s : fm_M} {c sp d dp n c' : Nat} (h : ¬ c' = d) : fm_cp s c sp d dp n c' = s c' := by unfold fm_cp; exact fm_st_ne h
theorem cpy0 {f g : Nat → Int32} {n k : Nat} (h : k < n) : va_cpy f g 0 0 n k = f k := by
  rw [pk_cpy_in (by omega) (by omega), Nat.zero_add, Nat.sub_zero]
/-- the hall at a (memory s') is as that at g (memory s) -/
def CE (s : fm_M) (g : Nat) (s' : fm_M) (a : Nat) : Prop := (∀ c, c < 6 → s' (a + 1) c = s (g + 1) c ∧ s' (a + 2) c = s (g + 2) c ∧ s' (a + 3) c = s (g + 3) c) ∧ (∀ w, w < 3 → s' (a + 4) w = s (g + 4) w ∧ s' (a + 5) w = s (g + 5) w ∧ s' (a + 6) w = s (g + 6) w) ∧ s' a 7 = s g 7 ∧ s' a 8 = s g 8 ∧ s' a 9 = s g 9
theorem CE.rh {p σ : Nat → Nat} {s s' : fm_M} {g a : Nat} (hp : PI p) (h : CE s g s' a) (hR : RH p σ s g) : RH p σ s' a := by
  have hp0 := hp.2.2.1
  have hp1 := hp.2.2.2.2.1
  obtain ⟨c1, c2, c3, c4, c5⟩ := h
  obtain ⟨r1, r2, r3, r4, r5, r6⟩ := hR
  refine ⟨fun c hc => ?_, fun c g1 g2 => ?_, fun w hw => ?_, by rw [c3]; exact r4, by rw [c4]; exact r5, by rw [c5]; exact r6⟩
  · obtain ⟨a1, a2, a3⟩ := c1 c (by omega)
    rw [a1, a2, a3]; exact r1 c hc
  · rw [(c1 c g2).2.2]; exact r2 c g1 g2
  · obtain ⟨a1, a2, a3⟩ := c2 w (by omega)
    rw [a1, a2, a3]; exact r3 w hw
theorem CE.fh {s s' : fm_M} {g : Nat} (h : ∀ c, g ≤ c → c ≤ g + 6 → s' c = s c) : CE s g s' g := by
  refine ⟨fun c _ => ?_, fun w _ => ?_, ?_, ?_, ?_⟩
  · rw [h (g + 1) (by omega) (by omega), h (g + 2) (by omega) (by omega), h (g + 3) (by omega) (by omega)]; exact ⟨rfl, rfl, rfl⟩
  · rw [h (g + 4) (by omega) (by omega), h (g + 5) (by omega) (by omega), h (g + 6) (by omega) (by omega)]; exact ⟨rfl, rfl, rfl⟩
  · rw [h g (by omega) (by omega)]
  · rw [h g (by omega) (by omega)]
  · rw [h g (by omega) (by omega)]
theorem X_copyFrom {s : fm_M} {a g : Nat} (hd : g + 6 < a ∨ a + 6 < g) (h9 : fm_b (s g 9) = true) : ∃ s', f_X2_copyFrom a g s = some (0, s') ∧ CE s g s' a ∧ FH a s s' ∧ s' a 10 = s a 10 + 1 := by
  unfold f_X2_copyFrom
  obtain ⟨t, ht⟩ : ∃ t, t = fm_cp (fm_cp (fm_cp (fm_cp (fm_cp (fm_cp s (g + 1) 0 (a + 1) 0 6) (g + 2) 0 (a + 2) 0 6) (g + 3) 0 (a + 3) 0 6) (g + 4) 0 (a + 4) 0 3) (g + 5) 0 (a + 5) 0 3) (g + 6) 0 (a + 6) 0 3 := ⟨_, rfl⟩
  rw [← ht]
  have tg : t g = s g := by rw [ht]; simp (disch := omega) only [m_cp_ne]
  have ta : t a = s a := by rw [ht]; simp (disch := omega) only [m_cp_ne]
  have to : ∀ c, c < a ∨ a + 6 < c → t c = s c := fun c hc => by rw [ht]; simp (disch := omega) only [m_cp_ne]
  have t1 : ∀ c, c < 6 → t (a + 1) c = s (g + 1) c ∧ t (a + 2) c = s (g + 2) c ∧ t (a + 3) c = s (g + 3) c := fun c hc => by
    rw [ht]
    refine ⟨?_, ?_, ?_⟩ <;> (simp (disch := omega) only [m_cp_ne, m_cp_eq]; exact cpy0 hc)
  have t2 : ∀ c, c < 3 → t (a + 4) c = s (g + 4) c ∧ t (a + 5) c = s (g + 5) c ∧ t (a + 6) c = s (g + 6) c := fun c hc => by
    rw [ht]
    refine ⟨?_, ?_, ?_⟩ <;> (simp (disch := omega) only [m_cp_ne, m_cp_eq]; exact cpy0 hc)
  clear ht
  refine ⟨fm_up (fm_up (fm_up (fm_up t a 7 (s g 7)) a 8 (s g 8)) a 9 (s g 9)) a 10 (s a 10 + 1), ?_, ?_, ?_, ?_⟩
  · simp (disch := omega) only [m_up_ne, m_up_eq, m_upd_ne, tg, ta, h9, if_true]
  · refine ⟨fun c hc => ?_, fun w hw => ?_, ?_, ?_, ?_⟩
    · simp (disch := omega) only [m_up_ne]; exact t1 c hc
    · simp (disch := omega) only [m_up_ne]; exact t2 w hw
    · simp (disch := omega) only [m_up_eq, m_upd_ne, m_upd_eq]
    · simp (disch := omega) only [m_up_eq, m_upd_ne, m_upd_eq]
    · simp (disch := omega) only [m_up_eq, m_upd_ne, m_upd_eq]
  · intro c hc
    simp (disch := omega) only [m_up_ne]
    exact to c hc
  · rw [m_up_eq, m_upd_eq]
theorem X_startAgain {s : fm_M} {a k : Nat} : ∃ s', f_X2_startAgain a (nI k) s = some (0, s') ∧ (∀ c, c < 6 → s' (a + 1) c = nI 0 ∧ s' (a + 2) c = nI 0 ∧ s' (a + 3) c = nI 0) ∧ (∀ w, w < 3 → s' (a + 4) w = nI 0 ∧ s' (a + 5) w = nI 0) ∧ s' a 7 = nI k ∧ s' a 8 = nI 0 ∧ s' a 9 = nI 0 ∧ FH a s s' ∧ s' a 10 = s a 10 + 1 := by
  obtain ⟨x, h1, s1, h2, h3, h4, h5⟩ := it_go (body := fun (yy : fm_M × Int32) => f_X2_startAgain_2 a (nI k) yy.1 yy.2) (fun i t => ∃ s', t = (s', nI i) ∧ (∀ c, c < i → s' (a + 1) c = nI 0 ∧ s' (a + 2) c = nI 0 ∧ s' (a + 3) c = nI 0) ∧ FH a s s' ∧ s' a = s a) (fun x => ∃ s', x = (s', nI 6) ∧ (∀ c, c < 6 → s' (a + 1) c = nI 0 ∧ s' (a + 2) c = nI 0 ∧ s' (a + 3) c = nI 0) ∧ FH a s s' ∧ s' a = s a) 6 (s, 0) (by omega) ⟨s, rfl, fun c hc => by omega, FH.rf a s, rfl⟩ (by
    rintro i t hi ⟨s', rfl, q1, q2, q3⟩
    left
    refine ⟨(fm_up (fm_up (fm_up s' (a + 1) i (nI 0)) (a + 2) i (nI 0)) (a + 3) i (nI 0), nI (i + 1)), ?_, _, rfl, fun c hc => ?_, ((q2.tr (FH.up _ _ _ _ (by omega) (by omega))).tr (FH.up _ _ _ _ (by omega) (by omega))).tr (FH.up _ _ _ _ (by omega) (by omega)), ?_⟩
    · dsimp only [f_X2_startAgain_2]
      simp (disch := omega) only [zl0, zl1, zl2, zl3, zl4, zl5, zl6, zl7, zl8, zl9, zl10, zl11, zl12, zl13, zl17, zl18, zl19, zl20, zl21, zl22, zl23, zl24, zl25, zl26, zl27, zl28, zl29, zl31, zl32, zl40, zl42, zl44, zl48, zl50, zl57, zl58, zl59, zl60, zl65, zl97, zl98, zl99, zl100, zl103, zl104, zl108, zl119, zl126, zl200, zl203, zl255, zl999, zl9999, zl720, zl232, z_add, z_le, z_lt, z_eq, z_clamp, z_in, z_m4, z_m4n, z_m1n, z_b0, z_b1, m_up_eq, m_up_ne, m_upd_eq, m_upd_ne, bd_s, op_s2, Bool.false_eq_true, eq_self, if_true, if_false, if_pos, if_neg]
    · simp (disch := omega) only [m_up_eq, m_up_ne]
      by_cases e : c = i
      · subst e; rw [m_upd_eq, m_upd_eq, m_upd_eq]; exact ⟨rfl, rfl, rfl⟩
      · rw [m_upd_ne e, m_upd_ne e, m_upd_ne e]; exact q1 c (by omega)
    · simp (disch := omega) only [m_up_ne]; exact q3) (by
    rintro t ⟨s', rfl, q⟩
    refine ⟨_, ?_, s', rfl, q⟩
    dsimp only [f_X2_startAgain_2]
    simp (disch := omega) only [zl0, zl1, zl2, zl3, zl4, zl5, zl6, zl7, zl8, zl9, zl10, zl11, zl12, zl13, zl17, zl18, zl19, zl20, zl21, zl22, zl23, zl24, zl25, zl26, zl27, zl28, zl29, zl31, zl32, zl40, zl42, zl44, zl48, zl50, zl57, zl58, zl59, zl60, zl65, zl97, zl98, zl99, zl100, zl103, zl104, zl108, zl119, zl126, zl200, zl203, zl255, zl999, zl9999, zl720, zl232, z_add, z_le, z_lt, z_eq, z_clamp, z_in, z_m4, z_m4n, z_m1n, z_b0, z_b1, m_up_eq, m_up_ne, m_upd_eq, m_upd_ne, bd_s, op_s2, Bool.false_eq_true, eq_self, if_true, if_false, if_pos, if_neg])
  obtain ⟨y, g1, s2, g2, g3, g4, g5⟩ := it_go (body := fun (yy : fm_M × Int32) => f_X2_startAgain_37 a (nI k) yy.1 yy.2) (fun i t => ∃ s', t = (s', nI i) ∧ (∀ c, c < i → s' (a + 4) c = nI 0 ∧ s' (a + 5) c = nI 0) ∧ (FH a s s' ∧ s' (a + 1) = s1 (a + 1) ∧ s' (a + 2) = s1 (a + 2) ∧ s' (a + 3) = s1 (a + 3)) ∧ s' a = s a) (fun x => ∃ s', x = (s', nI 3) ∧ (∀ c, c < 3 → s' (a + 4) c = nI 0 ∧ s' (a + 5) c = nI 0) ∧ (FH a s s' ∧ s' (a + 1) = s1 (a + 1) ∧ s' (a + 2) = s1 (a + 2) ∧ s' (a + 3) = s1 (a + 3)) ∧ s' a = s a) 3 (s1, 0) (by omega) ⟨s1, rfl, fun c hc => by omega, ⟨h4, rfl, rfl, rfl⟩, h5⟩ (by
    rintro i t hi ⟨s', rfl, q1, ⟨q2, r1, r2, r3⟩, q3⟩
    left
    refine ⟨(fm_up (fm_up (fm_up s' (a + 4) i (nI 0)) (a + 5) i (nI 0)) (a + 6) i (-nI 4), nI (i + 1)), ?_, _, rfl, fun c hc => ?_, ⟨((q2.tr (FH.up _ _ _ _ (by omega) (by omega))).tr (FH.up _ _ _ _ (by omega) (by omega))).tr (FH.up _ _ _ _ (by omega) (by omega)), ?_, ?_, ?_⟩, ?_⟩
    · dsimp only [f_X2_startAgain_37]
      simp (disch := omega) only [zl0, zl1, zl2, zl3, zl4, zl5, zl6, zl7, zl8, zl9, zl10, zl11, zl12, zl13, zl17, zl18, zl19, zl20, zl21, zl22, zl23, zl24, zl25, zl26, zl27, zl28, zl29, zl31, zl32, zl40, zl42, zl44, zl48, zl50, zl57, zl58, zl59, zl60, zl65, zl97, zl98, zl99, zl100, zl103, zl104, zl108, zl119, zl126, zl200, zl203, zl255, zl999, zl9999, zl720, zl232, z_add, z_le, z_lt, z_eq, z_clamp, z_in, z_m4, z_m4n, z_m1n, z_b0, z_b1, m_up_eq, m_up_ne, m_upd_eq, m_upd_ne, bd_s, op_s2, Bool.false_eq_true, eq_self, if_true, if_false, if_pos, if_neg]
    · simp (disch := omega) only [m_up_eq, m_up_ne]
      by_cases e : c = i
      · subst e; rw [m_upd_eq, m_upd_eq]; exact ⟨rfl, rfl⟩
      · rw [m_upd_ne e, m_upd_ne e]; exact q1 c (by omega)
    · simp (disch := omega) only [m_up_ne]; exact r1
    · simp (disch := omega) only [m_up_ne]; exact r2
    · simp (disch := omega) only [m_up_ne]; exact r3
    · simp (disch := omega) only [m_up_ne]; exact q3) (by
    rintro t ⟨s', rfl, q⟩
    refine ⟨_, ?_, s', rfl, q⟩
    dsimp only [f_X2_startAgain_37]
    simp (disch := omega) only [zl0, zl1, zl2, zl3, zl4, zl5, zl6, zl7, zl8, zl9, zl10, zl11, zl12, zl13, zl17, zl18, zl19, zl20, zl21, zl22, zl23, zl24, zl25, zl26, zl27, zl28, zl29, zl31, zl32, zl40, zl42, zl44, zl48, zl50, zl57, zl58, zl59, zl60, zl65, zl97, zl98, zl99, zl100, zl103, zl104, zl108, zl119, zl126, zl200, zl203, zl255, zl999, zl9999, zl720, zl232, z_add, z_le, z_lt, z_eq, z_clamp, z_in, z_m4, z_m4n, z_m1n, z_b0, z_b1, m_up_eq, m_up_ne, m_upd_eq, m_upd_ne, bd_s, op_s2, Bool.false_eq_true, eq_self, if_true, if_false, if_pos, if_neg])
  obtain ⟨k1, k2, k3, k4⟩ := g4
  refine ⟨fm_up (fm_up (fm_up (fm_up s2 a 7 (nI k)) a 8 (nI 0)) a 9 (nI 0)) a 10 (s a 10 + nI 1), ?_, fun c hc => ?_, fun w hw => ?_, ?_, ?_, ?_, ?_, ?_⟩
  · subst h2; subst g2
    unfold f_X2_startAgain
    rw [op_some h1]
    dsimp only
    rw [op_some g1]
    dsimp only
    simp (disch := omega) only [zl0, zl1, zl2, zl3, zl4, zl5, zl6, zl7, zl8, zl9, zl10, zl11, zl12, zl13, zl17, zl18, zl19, zl20, zl21, zl22, zl23, zl24, zl25, zl26, zl27, zl28, zl29, zl31, zl32, zl40, zl42, zl44, zl48, zl50, zl57, zl58, zl59, zl60, zl65, zl97, zl98, zl99, zl100, zl103, zl104, zl108, zl119, zl126, zl200, zl203, zl255, zl999, zl9999, zl720, zl232, z_add, z_le, z_lt, z_eq, z_clamp, z_in, z_m4, z_m4n, z_m1n, z_b0, z_b1, m_up_eq, m_up_ne, m_upd_eq, m_upd_ne, bd_s, op_s2, Bool.false_eq_true, eq_self, if_true, if_false, if_pos, if_neg, g5]
  · simp (disch := omega) only [m_up_ne, k2, k3, k4]; exact h3 c hc
  · simp (disch := omega) only [m_up_ne]; exact g3 w hw
  · simp (disch := omega) only [m_up_eq, m_upd_ne, m_upd_eq]
  · simp (disch := omega) only [m_up_eq, m_upd_ne, m_upd_eq]
  · simp (disch := omega) only [m_up_eq, m_upd_ne, m_upd_eq]
  · exact (((k1.tr (FH.up _ _ _ _ (by omega) (by omega))).tr (FH.up _ _ _ _ (by omega) (by omega))).tr (FH.up _ _ _ _ (by omega) (by omega))).tr (FH.up _ _ _ _ (by omega) (by omega))
  · rw [m_up_eq, m_upd_eq]; rfl
def zF : Nat → Nat := fun _ => 0
theorem HI_z (p : Nat → Nat) : HI p zF := by
  refine ⟨fun j _ => ?_, fun c _ => ⟨?_, fun _ => rfl, Nat.zero_le _, Nat.le_refl _⟩, fun w _ => ⟨?_, fun _ => rfl, fun h => ?_, fun h => ?_⟩, fun w v _ _ _ h => ?_, ?_, ?_⟩ <;> simp_all [zF]
theorem RH_z {p : Nat → Nat} {s' : fm_M} {a : Nat} (hp : PI p) (h1 : ∀ c, c < 6 → s' (a + 1) c = nI 0 ∧ s' (a + 2) c = nI 0 ∧ s' (a + 3) c = nI 0) (h2 : ∀ w, w < 3 → s' (a + 4) w = nI 0 ∧ s' (a + 5) w = nI 0) (h3 : s' a 7 = nI (p 1)) (h4 : s' a 8 = nI 0) (h5 : s' a 9 = nI 0) : RH p zF s' a := by
  have hp0 := hp.2.2.1
  have hp1 := hp.2.2.2.2.1
  refine ⟨fun c hc => ⟨(h1 c (by omega)).1, fun _ => (h1 c (by omega)).2.1, (h1 c (by omega)).2.2⟩, fun c _ g => (h1 c g).2.2, fun w hw => ⟨(h2 w (by omega)).1, (h2 w (by omega)).2, fun q => by simp [zF] at q⟩, h3, h4, h5⟩
theorem high_hc {σ : Nat → Nat} : ∀ n, 0 < highF σ n ↔ 0 < hc σ 18 0 n
  | 0 => by simp [highF, hc]
  | n + 1 => by
    have ih := high_hc (σ := σ) n
    unfold highF hc
    by_cases e : σ (18 + n) = 0
    · rw [if_pos e, if_pos e]; omega
    · rw [if_neg e, if_neg e]; omega
theorem hc_two {σ : Nat → Nat} {fr a b : Nat} (h : ¬ a = b) : ∀ n, hc σ fr a n + hc σ fr b n ≤ n
  | 0 => by simp [hc]
  | n + 1 => by
    have ih := hc_two (σ := σ) (fr := fr) h n
    unfold hc
    by_cases e : σ (fr + n) = a
    · rw [if_pos e, if_neg (by omega)]; omega
    · rw [if_neg e]; split <;> omega
theorem X_doorIsDue {p σ : Nat → Nat} {s : fm_M} (hp : PI p) (hP : RP p s) (hR : RH p σ s 91) (hH : HI p σ) : f_X1_doorIsDue s = some (bI (decide (mayF p σ)), s) := by
  have hp0 := hp.2.2.1
  have hp1 := hp.2.2.2.2.1
  have hp3 := hp.2.2.2.2.2.2.2.1
  have hp4 := hp.2.2.2.2.2.2.2.2.1
  have l1 := hc_le σ 0 2 (p 0)
  have l2 := hc_le σ 0 3 (p 0)
  have l3 := hc_le σ 18 3 (p 1)
  have l4 := hc_le σ 18 0 (p 1)
  have l5 := hc_two (σ := σ) (fr := 18) (a := 0) (b := 3) (by omega) (p 1)
  have l6 := high_hc (σ := σ) (p 1)
  have c2 : f_X2_countChildren 91 (nI 2) s = some (nI (hc σ 0 2 (p 0)), s) := X_countChildren hp hP hR hH 2 (by omega)
  have c3 : f_X2_countChildren 91 (nI 3) s = some (nI (hc σ 0 3 (p 0)), s) := X_countChildren hp hP hR hH 3 (by omega)
  have cw : f_X2_countWomen 91 (nI 0) s = some (nI (hc σ 18 0 (p 1)), s) := X_countWomen hp hR hH 0 (by omega)
  have ow := X_oneWomanLeft hp hR hH
  have w1 := hP.1
  have w5 := hP.2.2.1
  have key : f_X1_doorIsDue_52 (nI (hc σ 0 2 (p 0))) (nI 0) s = some (bI (decide (hc σ 0 2 (p 0) + hc σ 0 3 (p 0) = p 0)), s) := by
    unfold f_X1_doorIsDue_52 f_X1_doorIsDue_77 f_X1_doorIsDue_82
    by_cases e : hc σ 0 2 (p 0) + hc σ 0 3 (p 0) = p 0
    · rw [decide_eq_true e]
      simp (disch := omega) only [zl0, zl1, zl2, zl3, zl4, zl5, zl6, zl7, zl8, zl9, zl10, zl11, zl12, zl13, zl17, zl18, zl19, zl20, zl21, zl22, zl23, zl24, zl25, zl26, zl27, zl28, zl29, zl31, zl32, zl40, zl42, zl44, zl48, zl50, zl57, zl58, zl59, zl60, zl65, zl97, zl98, zl99, zl100, zl103, zl104, zl108, zl119, zl126, zl200, zl203, zl255, zl999, zl9999, zl720, zl232, z_add, z_le, z_lt, z_eq, z_clamp, z_in, z_m4, z_m4n, z_m1n, z_b0, z_b1, m_up_eq, m_up_ne, m_upd_eq, m_upd_ne, bd_s, op_s2, Bool.false_eq_true, eq_self, if_true, if_false, if_pos, if_neg, c3, w1, bI]
    · rw [decide_eq_false e]
      simp (disch := omega) only [zl0, zl1, zl2, zl3, zl4, zl5, zl6, zl7, zl8, zl9, zl10, zl11, zl12, zl13, zl17, zl18, zl19, zl20, zl21, zl22, zl23, zl24, zl25, zl26, zl27, zl28, zl29, zl31, zl32, zl40, zl42, zl44, zl48, zl50, zl57, zl58, zl59, zl60, zl65, zl97, zl98, zl99, zl100, zl103, zl104, zl108, zl119, zl126, zl200, zl203, zl255, zl999, zl9999, zl720, zl232, z_add, z_le, z_lt, z_eq, z_clamp, z_in, z_m4, z_m4n, z_m1n, z_b0, z_b1, m_up_eq, m_up_ne, m_upd_eq, m_upd_ne, bd_s, op_s2, Bool.false_eq_true, eq_self, if_true, if_false, if_pos, if_neg, c3, w1, bI]
  unfold f_X1_doorIsDue f_X1_doorIsDue_51 f_X1_doorIsDue_24
  by_cases e1 : hc σ 0 2 (p 0) = 0
  · rw [decide_eq_false (by rintro ⟨q1, q2⟩; omega)]
    simp (disch := omega) only [zl0, zl1, zl2, zl3, zl4, zl5, zl6, zl7, zl8, zl9, zl10, zl11, zl12, zl13, zl17, zl18, zl19, zl20, zl21, zl22, zl23, zl24, zl25, zl26, zl27, zl28, zl29, zl31, zl32, zl40, zl42, zl44, zl48, zl50, zl57, zl58, zl59, zl60, zl65, zl97, zl98, zl99, zl100, zl103, zl104, zl108, zl119, zl126, zl200, zl203, zl255, zl999, zl9999, zl720, zl232, z_add, z_le, z_lt, z_eq, z_clamp, z_in, z_m4, z_m4n, z_m1n, z_b0, z_b1, m_up_eq, m_up_ne, m_upd_eq, m_upd_ne, bd_s, op_s2, Bool.false_eq_true, eq_self, if_true, if_false, if_pos, if_neg, c2, bI]
  · by_cases e2 : hc σ 18 0 (p 1) = 0
    · rw [decide_eq_false (by rintro ⟨q1, q2⟩; omega)]
      simp (disch := omega) only [zl0, zl1, zl2, zl3, zl4, zl5, zl6, zl7, zl8, zl9, zl10, zl11, zl12, zl13, zl17, zl18, zl19, zl20, zl21, zl22, zl23, zl24, zl25, zl26, zl27, zl28, zl29, zl31, zl32, zl40, zl42, zl44, zl48, zl50, zl57, zl58, zl59, zl60, zl65, zl97, zl98, zl99, zl100, zl103, zl104, zl108, zl119, zl126, zl200, zl203, zl255, zl999, zl9999, zl720, zl232, z_add, z_le, z_lt, z_eq, z_clamp, z_in, z_m4, z_m4n, z_m1n, z_b0, z_b1, m_up_eq, m_up_ne, m_upd_eq, m_upd_ne, bd_s, op_s2, Bool.false_eq_true, eq_self, if_true, if_false, if_pos, if_neg, c2, cw, bI]
    · by_cases e3 : hc σ 0 2 (p 0) < p 3
      · simp (disch := omega) only [zl0, zl1, zl2, zl3, zl4, zl5, zl6, zl7, zl8, zl9, zl10, zl11, zl12, zl13, zl17, zl18, zl19, zl20, zl21, zl22, zl23, zl24, zl25, zl26, zl27, zl28, zl29, zl31, zl32, zl40, zl42, zl44, zl48, zl50, zl57, zl58, zl59, zl60, zl65, zl97, zl98, zl99, zl100, zl103, zl104, zl108, zl119, zl126, zl200, zl203, zl255, zl999, zl9999, zl720, zl232, z_add, z_le, z_lt, z_eq, z_clamp, z_in, z_m4, z_m4n, z_m1n, z_b0, z_b1, m_up_eq, m_up_ne, m_upd_eq, m_upd_ne, bd_s, op_s2, Bool.false_eq_true, eq_self, if_true, if_false, if_pos, if_neg, c2, cw, w5, key]
        congr 3
        apply decide_eq_decide.mpr
        constructor
        · intro q; exact ⟨by omega, Or.inr ⟨by omega, q⟩⟩
        · rintro ⟨q1, q2⟩; omega
      · by_cases e4 : p 1 - hc σ 18 3 (p 1) = 1
        · rw [decide_eq_true e4] at ow
          simp (disch := omega) only [zl0, zl1, zl2, zl3, zl4, zl5, zl6, zl7, zl8, zl9, zl10, zl11, zl12, zl13, zl17, zl18, zl19, zl20, zl21, zl22, zl23, zl24, zl25, zl26, zl27, zl28, zl29, zl31, zl32, zl40, zl42, zl44, zl48, zl50, zl57, zl58, zl59, zl60, zl65, zl97, zl98, zl99, zl100, zl103, zl104, zl108, zl119, zl126, zl200, zl203, zl255, zl999, zl9999, zl720, zl232, z_add, z_le, z_lt, z_eq, z_clamp, z_in, z_m4, z_m4n, z_m1n, z_b0, z_b1, m_up_eq, m_up_ne, m_upd_eq, m_upd_ne, bd_s, op_s2, Bool.false_eq_true, eq_self, if_true, if_false, if_pos, if_neg, c2, cw, w5, ow, key, bI]
          simp only [bI] at key ⊢
          congr 3
          apply propext
          simp only [decide_eq_true_eq]
          constructor
          · intro q; exact ⟨by omega, Or.inr ⟨by omega, q⟩⟩
          · rintro ⟨q1, q2⟩; omega
        · rw [decide_eq_false e4] at ow
          rw [decide_eq_true (show mayF p σ from ⟨by omega, Or.inl ⟨by omega, by omega⟩⟩)]
          unfold f_X1_doorIsDue_52 f_X1_doorIsDue_77 f_X1_doorIsDue_82
          simp (disch := omega) only [zl0, zl1, zl2, zl3, zl4, zl5, zl6, zl7, zl8, zl9, zl10, zl11, zl12, zl13, zl17, zl18, zl19, zl20, zl21, zl22, zl23, zl24, zl25, zl26, zl27, zl28, zl29, zl31, zl32, zl40, zl42, zl44, zl48, zl50, zl57, zl58, zl59, zl60, zl65, zl97, zl98, zl99, zl100, zl103, zl104, zl108, zl119, zl126, zl200, zl203, zl255, zl999, zl9999, zl720, zl232, z_add, z_le, z_lt, z_eq, z_clamp, z_in, z_m4, z_m4n, z_m1n, z_b0, z_b1, m_up_eq, m_up_ne, m_upd_eq, m_upd_ne, bd_s, op_s2, Bool.false_eq_true, eq_self, if_true, if_false, if_pos, if_neg, c2, cw, w5, ow, bI]
