/-! acts -/
def Good (k : Nat) (a b : Option (Int32 × fm_M)) : Prop := ∃ (r : Int32) (x' m' : fm_M), a = some (r, x') ∧ b = some (r, m') ∧ Rel (k + 1) x' m'
theorem IS.up {p σ t : Nat → Nat} {tn : Nat} {H : Nat → Nat → Nat} {hn : Nat} {K : Nat → Nat → Nat} {kn : Nat} {sc sn sl : Nat → Nat} {sq ch k : Nat} (h : IS p σ t tn H hn K kn sc sn sl sq ch k) (hk : k < 1000) : IS p σ t tn H hn K kn sc sn sl sq ch (k + 1) := by
  obtain ⟨h1, h2, h3, h4, h5, h6, h7, h8, h9⟩ := h
  exact ⟨h1, h2, h3, h4, h5, h6, h7, by omega, by omega⟩
theorem Good.same {k : Nat} {x m : fm_M} (h : Rel k x m) (hk : k < 1000) {r : Int32} {a b : Option (Int32 × fm_M)} (ha : a = some (r, x)) (hb : b = some (r, m)) : Good k a b := by
  obtain ⟨p, σ, t, tn, H, hn, K, kn, sc, sn, sl, sq, ch, h1, h2, h3⟩ := h
  exact ⟨r, x, m, ha, hb, p, σ, t, tn, H, hn, K, kn, sc, sn, sl, sq, ch, h1.up hk, h2, h3⟩
theorem push_PI {p σ : Nat → Nat} {H : Nat → Nat → Nat} {n N : Nat} (h : PIh p H n) (hH : HI p σ) (h28 : σ 28 ≤ 999) : PIh p (push σ H) (if n = N then N else n + 1) := by
  intro k hk
  cases k with
  | zero => exact ⟨hH, h28⟩
  | succ k => exact h k (by split at hk <;> omega)
theorem ch_ne {x : fm_M} {ch d : Nat} (h9 : x 98 6 = -4 ∨ ∃ ta, x 98 6 = nI ta ∧ ta ≤ ch) (hd : 1 ≤ d) (hb : ch + d < 1000000) : ¬ x 98 6 = nI (ch + d) := by
  rcases h9 with h | ⟨ta, h, hl⟩
  · rw [h, z_m4' (by omega)]; exact fun q => q
  · rw [h, z_eq (by omega) (by omega)]; omega
/-- both sides have put the hall by, and done the same to it -/
theorem rel_act {p σ τ t : Nat → Nat} {tn : Nat} {H : Nat → Nat → Nat} {hn : Nat} {K : Nat → Nat → Nat} {kn : Nat} {sc sn sl : Nat → Nat} {sq ch k d : Nat} {x x1 x2 m m1 m2 : fm_M} (hI : IS p σ t tn H hn K kn sc sn sl sq ch k) (hX : XS p σ t tn H hn K kn sc sn sl sq ch x) (hM : MS p σ t tn H hn K kn sc sn sl sq m) (hk : k < 1000)
    (a1 : PX p (push σ H) (if hn = 8 then 8 else hn + 1) 8 16 x1) (a2 : ∀ c, c < 16 ∨ 16 + 2 + 7 * 8 ≤ c → x1 c = x c) (b1 : RH p τ x2 9) (b2 : FH 9 x1 x2) (b3 : x2 9 10 = nI (ch + d)) (hd : 1 ≤ d) (hd2 : d ≤ 40) (hτ : HI p τ) (h28 : τ 28 ≤ 999)
    (c1 : PM (push σ H) (if hn = 8 then 8 else hn + 1) m1) (c2 : ∀ c, ¬ c = 0 → ¬ c = 5 → m1 c = m c) (c3 : ∀ k, ¬ k = 6 → m1 0 k = m 0 k) (d1 : RM p τ m2) (d2 : FM m1 m2) : Rel (k + 1) x2 m2 := by
  obtain ⟨i1, i2, i3, i4, i5, i6, i7, i8, i9⟩ := hI
  obtain ⟨⟨h1, h1'⟩, h2, h3, h4, h5, h6, h7, h8, h9, h10⟩ := hX
  obtain ⟨m1', m2', m3', m4', m5'⟩ := hM
  have ex : ∀ c, (c < 9 ∨ 73 < c) → x2 c = x c := fun c hc => by rw [b2 c (by omega), a2 c (by omega)]
  have em : ∀ c, ¬ c = 0 → ¬ c = 4 → ¬ c = 5 → m2 c = m c := fun c c0 c4 c5 => by rw [d2 c c4, c2 c c0 c5]
  have e0 : ∀ k, ¬ k = 6 → m2 0 k = m 0 k := fun k hk => by rw [d2 0 (by omega)]; exact c3 k hk
  have e98 := ex 98 (by omega)
  refine ⟨p, τ, t, tn, push σ H, if hn = 8 then 8 else hn + 1, K, kn, sc, sn, sl, sq, ch + d, ⟨i1, hτ, h28, i4, push_PI i5 i2 i3, i6, i7, by omega, by omega⟩, ⟨⟨h1.fr (ex 6 (by omega)) (ex 7 (by omega)) (ex 8 (by omega)), by rw [ex 6 (by omega)]; exact h1'⟩, b1, h3.fr (ex 1 (by omega)) (ex 2 (by omega)), a1.fr (fun c g1 g2 => b2 c (by omega)), h5.fr (fun c g1 g2 => ex c (by omega)), h6.fr (fun c g1 g2 => ex c (by omega)), b3, ?_, ?_, fun j hj => by rw [ex 1000 (by omega)]; exact h10 j hj⟩, ⟨d1, ?_, ?_, ?_, ?_⟩⟩
  · intro q
    rw [e98, b3] at q
    exact absurd q (ch_ne h9 hd (by omega))
  · rw [e98]
    rcases h9 with h | ⟨ta, h, hl⟩
    · exact Or.inl h
    · exact Or.inr ⟨ta, h, by omega⟩
  · unfold TMc; rw [e0 1 (by omega), em 1 (by omega) (by omega) (by omega)]; exact m2'
  · obtain ⟨z1, z2, z3⟩ := c1
    exact ⟨z1, by rw [d2 0 (by omega)]; exact z2, fun k hk j hj => by rw [d2 5 (by omega)]; exact z3 k hk j hj⟩
  · unfold KM; rw [e0 8 (by omega), em 6 (by omega) (by omega) (by omega)]; exact m4'
  · unfold SM; rw [e0 10 (by omega), em 7 (by omega) (by omega) (by omega)]; exact m5'
theorem bI_cases (b : Bool) : (b = true ∧ bI b = 1) ∨ (b = false ∧ bI b = 0) := by cases b <;> simp [bI]
theorem R_take {k : Nat} {x m : fm_M} (h : Rel k x m) (hk : k < 1000) (v1 v2 : Int32) : Good k (f_X8_take v1 v2 x) (f_X9_take v1 v2 m) := by
  have hrel := h
  obtain ⟨p, σ, t, tn, H, hn, K, kn, sc, sn, sl, sq, ch, hI, hX, hM⟩ := h
  have hp := hI.1
  have hH := hI.2.1
  have hp0 := hp.2.2.1
  have hp1 := hp.2.2.2.2.1
  have hP := hX.1.1
  have hR := hX.2.1
  have hRM := hM.1
  have xw := X_hasWoman hp hR v1
  have mw := M_isWoman hp hRM v1
  have xc := X_hasChild hp hP.1 v2
  have mc := M_isChild hp hRM v2
  have cd := X_canDress hp hP hR hH v1 v2
  by_cases e1 : fm_in v1 (p 1) = true
  · rw [e1] at xw mw cd
    by_cases e2 : fm_in v2 (p 0) = true
    · rw [e2] at xc mc cd
      obtain ⟨w, hw, rfl⟩ := in_nI e1
      obtain ⟨c, hc, rfl⟩ := in_nI e2
      rw [z_clamp (by omega), z_clamp (by omega), Bool.true_and, Bool.true_and] at cd
      have s18 := hRM.2 (18 + w) (by omega)
      have sc0 := hRM.2 c (by omega)
      have d18 := hH.1 (18 + w) (by omega)
      have dc := hH.1 c (by omega)
      by_cases e3 : σ (18 + w) = 0
      · by_cases e4 : σ c = 0
        · rw [decide_eq_true e3, decide_eq_true e4] at cd
          obtain ⟨x1, p1, p2, p3⟩ := X_push hp (Or.inl ⟨rfl, rfl⟩) hX.2.2.2.1 hR hH
          have hR1 : RH p σ x1 9 := hR.fr (fun c c1 c2 => p3 c (by omega))
          have hP1 : RP p x1 := hP.fr (p3 6 (by omega)) (p3 7 (by omega)) (p3 8 (by omega))
          obtain ⟨x2, q1, q2, q3, q4⟩ := X_dress hp (a := 9) (by omega) hP1 hR1 hH hw e3 hc e4
          obtain ⟨m1, r1, r2, r3, r4⟩ := M_keeps hRM.2 hM.2.2.1
          have hRM1 : RM p σ m1 := ⟨fun j hj => by rw [r3 2 (by omega) (by omega)]; exact hRM.1 j hj, fun j hj => by rw [r3 4 (by omega) (by omega)]; exact hRM.2 j hj⟩
          obtain ⟨m2, t1, t2, t3⟩ := M_dresses hp hRM1 hH hw hc
          have d21 := t2.2 (21 + w) (by omega)
          rw [drF_n (by omega), begF_21] at d21
          refine ⟨nI (minsOf p σ c), x2, m2, ?_, ?_, rel_act (d := 1) hI hX hM hk p2 p3 q2 q3 ?_ (by omega) (by omega) (HI_dr hp hH hw e3 hc e4) ?_ r2 r3 r4 t2 t3⟩
          · unfold f_X8_take
            rw [bd_some xw, if_neg (by decide), bd_some xc, if_neg (by decide), bd_some cd, if_neg (by decide), bd_some p1, bd_some q1]
          · unfold f_X9_take
            rw [bd_some mw, if_neg (by decide), bd_some mc, if_neg (by decide)]
            simp (disch := omega) only [zl0, zl1, zl2, zl3, zl4, zl5, zl6, zl7, zl8, zl9, zl10, zl11, zl12, zl13, zl17, zl18, zl19, zl20, zl21, zl22, zl23, zl24, zl25, zl26, zl27, zl28, zl29, zl31, zl32, zl40, zl42, zl44, zl48, zl50, zl57, zl58, zl59, zl60, zl65, zl97, zl98, zl99, zl100, zl103, zl104, zl108, zl119, zl126, zl200, zl203, zl255, zl999, zl9999, zl720, zl232, z_add, z_le, z_lt, z_eq, z_clamp, z_in, z_m4, z_m4n, z_m1n, z_b0, z_b1, m_up_eq, m_up_ne, m_upd_eq, m_upd_ne, bd_s, op_s2, Bool.false_eq_true, eq_self, if_true, if_false, if_pos, if_neg, s18, sc0, r1, t1, d21]
          · rw [q4, p3 9 (by omega), hX.2.2.2.2.2.2.1, show (1 : Int32) = nI 1 from rfl, z_add]
          · rw [drF_28 (by omega) (by omega)]; exact hI.2.2.1
        · rw [decide_eq_true e3, decide_eq_false e4] at cd
          refine Good.same hrel hk (r := -2) ?_ ?_
          · unfold f_X8_take
            rw [bd_some xw, if_neg (by decide), bd_some xc, if_neg (by decide), bd_some cd, if_pos (by decide)]
          · unfold f_X9_take f_X9_take_39
            rw [bd_some mw, if_neg (by decide), bd_some mc, if_neg (by decide)]
            simp (disch := omega) only [zl0, zl1, zl2, zl3, zl4, zl5, zl6, zl7, zl8, zl9, zl10, zl11, zl12, zl13, zl17, zl18, zl19, zl20, zl21, zl22, zl23, zl24, zl25, zl26, zl27, zl28, zl29, zl31, zl32, zl40, zl42, zl44, zl48, zl50, zl57, zl58, zl59, zl60, zl65, zl97, zl98, zl99, zl100, zl103, zl104, zl108, zl119, zl126, zl200, zl203, zl255, zl999, zl9999, zl720, zl232, z_add, z_le, z_lt, z_eq, z_clamp, z_in, z_m4, z_m4n, z_m1n, z_b0, z_b1, m_up_eq, m_up_ne, m_upd_eq, m_upd_ne, bd_s, op_s2, Bool.false_eq_true, eq_self, if_true, if_false, if_pos, if_neg, s18, sc0]
      · rw [decide_eq_false e3] at cd
        refine Good.same hrel hk (r := -2) ?_ ?_
        · unfold f_X8_take
          rw [bd_some xw, if_neg (by decide), bd_some xc, if_neg (by decide), bd_some cd, Bool.false_and, if_pos (by decide)]
        · unfold f_X9_take f_X9_take_39
          rw [bd_some mw, if_neg (by decide), bd_some mc, if_neg (by decide)]
          simp (disch := omega) only [zl0, zl1, zl2, zl3, zl4, zl5, zl6, zl7, zl8, zl9, zl10, zl11, zl12, zl13, zl17, zl18, zl19, zl20, zl21, zl22, zl23, zl24, zl25, zl26, zl27, zl28, zl29, zl31, zl32, zl40, zl42, zl44, zl48, zl50, zl57, zl58, zl59, zl60, zl65, zl97, zl98, zl99, zl100, zl103, zl104, zl108, zl119, zl126, zl200, zl203, zl255, zl999, zl9999, zl720, zl232, z_add, z_le, z_lt, z_eq, z_clamp, z_in, z_m4, z_m4n, z_m1n, z_b0, z_b1, m_up_eq, m_up_ne, m_upd_eq, m_upd_ne, bd_s, op_s2, Bool.false_eq_true, eq_self, if_true, if_false, if_pos, if_neg, s18, sc0]
    · rw [Bool.not_eq_true] at e2
      rw [e2] at xc mc
      refine Good.same hrel hk (r := -1) ?_ ?_
      · unfold f_X8_take f_X8_take_22
        rw [bd_some xw, if_neg (by decide), bd_some xc, if_pos (by decide)]
      · unfold f_X9_take f_X9_take_16
        rw [bd_some mw, if_neg (by decide), bd_some mc, if_pos (by decide)]
  · rw [Bool.not_eq_true] at e1
    rw [e1] at xw mw
    refine Good.same hrel hk (r := -1) ?_ ?_
    · unfold f_X8_take f_X8_take_22
      rw [bd_some xw, if_pos (by decide)]
    · unfold f_X9_take f_X9_take_16
      rw [bd_some mw, if_pos (by decide)]
theorem R_layOut {k : Nat} {x m : fm_M} (h : Rel k x m) (hk : k < 1000) (v1 : Int32) : Good k (f_X8_layOut v1 x) (f_X9_layOut v1 m) := by
  have hrel := h
  obtain ⟨p, σ, t, tn, H, hn, K, kn, sc, sn, sl, sq, ch, hI, hX, hM⟩ := h
  have hp := hI.1
  have hH := hI.2.1
  have hp0 := hp.2.2.1
  have hp1 := hp.2.2.2.2.1
  have hP := hX.1.1
  have hR := hX.2.1
  have hRM := hM.1
  have xw := X_hasWoman hp hR v1
  have mw := M_isWoman hp hRM v1
  have cd := X_canLay hp hR hH v1
  have ml := M_isLaid hp hRM hH
  by_cases e1 : fm_in v1 (p 1) = true
  · rw [e1] at xw mw cd
    obtain ⟨w, hw, rfl⟩ := in_nI e1
    rw [z_clamp (by omega), Bool.true_and] at cd
    have s18 := hRM.2 (18 + w) (by omega)
    have d18 := hH.1 (18 + w) (by omega)
    by_cases e3 : σ (18 + w) = 0
    · rw [decide_eq_true e3, Bool.true_and] at cd
      by_cases e4 : σ 27 = 1 ∨ 0 < hc σ 18 2 (p 1)
      · rw [decide_eq_true e4] at cd ml
        refine Good.same hrel hk (r := -2) ?_ ?_
        · unfold f_X8_layOut
          rw [bd_some xw, if_neg (by decide), bd_some cd, if_pos (by decide)]
        · unfold f_X9_layOut f_X9_layOut_29
          rw [bd_some mw, if_neg (by decide)]
          simp (disch := omega) only [zl0, zl1, zl2, zl3, zl4, zl5, zl6, zl7, zl8, zl9, zl10, zl11, zl12, zl13, zl17, zl18, zl19, zl20, zl21, zl22, zl23, zl24, zl25, zl26, zl27, zl28, zl29, zl31, zl32, zl40, zl42, zl44, zl48, zl50, zl57, zl58, zl59, zl60, zl65, zl97, zl98, zl99, zl100, zl103, zl104, zl108, zl119, zl126, zl200, zl203, zl255, zl999, zl9999, zl720, zl232, z_add, z_le, z_lt, z_eq, z_clamp, z_in, z_m4, z_m4n, z_m1n, z_b0, z_b1, m_up_eq, m_up_ne, m_upd_eq, m_upd_ne, bd_s, op_s2, Bool.false_eq_true, eq_self, if_true, if_false, if_pos, if_neg, s18, ml, bI]
      · rw [decide_eq_false e4] at cd ml
        obtain ⟨x1, p1, p2, p3⟩ := X_push hp (Or.inl ⟨rfl, rfl⟩) hX.2.2.2.1 hR hH
        have hR1 : RH p σ x1 9 := hR.fr (fun c c1 c2 => p3 c (by omega))
        obtain ⟨x2, q1, q2, q3, q4⟩ := X_lay hp (a := 9) (by omega) hR1 hH hw e3 e4
        obtain ⟨m1, r1, r2, r3, r4⟩ := M_keeps hRM.2 hM.2.2.1
        have hRM1 : RM p σ m1 := ⟨fun j hj => by rw [r3 2 (by omega) (by omega)]; exact hRM.1 j hj, fun j hj => by rw [r3 4 (by omega) (by omega)]; exact hRM.2 j hj⟩
        obtain ⟨m2, t1, t2, t3⟩ := M_begin (how := 2) (k := 3) (c := 0) hRM1 (show w < 3 by omega)
        refine ⟨nI 3, x2, m2, ?_, ?_, rel_act (d := 1) hI hX hM hk p2 p3 q2 q3 ?_ (by omega) (by omega) (HI_beg hp hH hw (by omega) (by omega) (by omega) (by omega) (by omega)) ?_ r2 r3 r4 t2 t3⟩
        · unfold f_X8_layOut
          rw [bd_some xw, if_neg (by decide), bd_some cd, if_neg (by decide), bd_some p1, bd_some q1]
        · unfold f_X9_layOut
          rw [bd_some mw, if_neg (by decide)]
          simp (disch := omega) only [zl0, zl1, zl2, zl3, zl4, zl5, zl6, zl7, zl8, zl9, zl10, zl11, zl12, zl13, zl17, zl18, zl19, zl20, zl21, zl22, zl23, zl24, zl25, zl26, zl27, zl28, zl29, zl31, zl32, zl40, zl42, zl44, zl48, zl50, zl57, zl58, zl59, zl60, zl65, zl97, zl98, zl99, zl100, zl103, zl104, zl108, zl119, zl126, zl200, zl203, zl255, zl999, zl9999, zl720, zl232, z_add, z_le, z_lt, z_eq, z_clamp, z_in, z_m4, z_m4n, z_m1n, z_b0, z_b1, m_up_eq, m_up_ne, m_upd_eq, m_upd_ne, bd_s, op_s2, Bool.false_eq_true, eq_self, if_true, if_false, if_pos, if_neg, s18, ml, r1, t1, bI]
        · rw [q4, p3 9 (by omega), hX.2.2.2.2.2.2.1, show (1 : Int32) = nI 1 from rfl, z_add]
        · rw [begF_o (by omega) (by omega) (by omega)]; exact hI.2.2.1
    · rw [decide_eq_false e3, Bool.false_and] at cd
      refine Good.same hrel hk (r := -2) ?_ ?_
      · unfold f_X8_layOut
        rw [bd_some xw, if_neg (by decide), bd_some cd, if_pos (by decide)]
      · unfold f_X9_layOut f_X9_layOut_29
        rw [bd_some mw, if_neg (by decide)]
        simp (disch := omega) only [zl0, zl1, zl2, zl3, zl4, zl5, zl6, zl7, zl8, zl9, zl10, zl11, zl12, zl13, zl17, zl18, zl19, zl20, zl21, zl22, zl23, zl24, zl25, zl26, zl27, zl28, zl29, zl31, zl32, zl40, zl42, zl44, zl48, zl50, zl57, zl58, zl59, zl60, zl65, zl97, zl98, zl99, zl100, zl103, zl104, zl108, zl119, zl126, zl200, zl203, zl255, zl999, zl9999, zl720, zl232, z_add, z_le, z_lt, z_eq, z_clamp, z_in, z_m4, z_m4n, z_m1n, z_b0, z_b1, m_up_eq, m_up_ne, m_upd_eq, m_upd_ne, bd_s, op_s2, Bool.false_eq_true, eq_self, if_true, if_false, if_pos, if_neg, s18]
  · rw [Bool.not_eq_true] at e1
    rw [e1] at xw mw
    refine Good.same hrel hk (r := -1) ?_ ?_
    · unfold f_X8_layOut
      rw [bd_some xw, if_pos (by decide)]
    · unfold f_X9_layOut
      rw [bd_some mw, if_pos (by decide)]
theorem R_door {k : Nat} {x m : fm_M} (h : Rel k x m) (hk : k < 1000) (v1 : Int32) : Good k (f_X8_door v1 x) (f_X9_door v1 m) := by
  have hrel := h
  obtain ⟨p, σ, t, tn, H, hn, K, kn, sc, sn, sl, sq, ch, hI, hX, hM⟩ := h
  have hp := hI.1
  have hH := hI.2.1
  have hp0 := hp.2.2.1
  have hp1 := hp.2.2.2.2.1
  have hP := hX.1.1
  have hR := hX.2.1
  have hRM := hM.1
  have xw := X_hasWoman hp hR v1
  have mw := M_isWoman hp hRM v1
  have cd := X_canOpen hp hP hR hH v1
  have mch : f_X9_children (nI 2) m = some (nI (hc σ 0 2 (p 0)), m) := M_children hp hRM hH 2 (by omega)
  have hl := hc_le σ 0 2 (p 0)
  by_cases e1 : fm_in v1 (p 1) = true
  · rw [e1] at xw mw cd
    obtain ⟨w, hw, rfl⟩ := in_nI e1
    rw [z_clamp (by omega), Bool.true_and] at cd
    have s18 := hRM.2 (18 + w) (by omega)
    have d18 := hH.1 (18 + w) (by omega)
    by_cases e3 : σ (18 + w) = 0
    · rw [decide_eq_true e3, Bool.true_and] at cd
      by_cases e4 : 0 < hc σ 0 2 (p 0)
      · rw [decide_eq_true e4] at cd
        obtain ⟨x1, p1, p2, p3⟩ := X_push hp (Or.inl ⟨rfl, rfl⟩) hX.2.2.2.1 hR hH
        have hR1 : RH p σ x1 9 := hR.fr (fun c c1 c2 => p3 c (by omega))
        have hP1 : RP p x1 := hP.fr (p3 6 (by omega)) (p3 7 (by omega)) (p3 8 (by omega))
        obtain ⟨x2, q1, q2, q3, q4⟩ := X_openDoor hp (a := 9) (by omega) hP1 hR1 hH hw e3 e4
        obtain ⟨m1, r1, r2, r3, r4⟩ := M_keeps hRM.2 hM.2.2.1
        have hRM1 : RM p σ m1 := ⟨fun j hj => by rw [r3 2 (by omega) (by omega)]; exact hRM.1 j hj, fun j hj => by rw [r3 4 (by omega) (by omega)]; exact hRM.2 j hj⟩
        obtain ⟨m2, t1, t2, t3⟩ := M_opens hp hRM1 hH hw
        refine ⟨opnB p σ, x2, m2, ?_, ?_, rel_act (d := 1) hI hX hM hk p2 p3 q2 q3 ?_ (by omega) (by omega) (HI_opn hp hH hw) ?_ r2 r3 r4 t2 t3⟩
        · unfold f_X8_door
          rw [bd_some xw, if_neg (by decide), bd_some cd, if_neg (by decide), bd_some p1, bd_some q1]
        · unfold f_X9_door
          rw [bd_some mw, if_neg (by decide)]
          simp (disch := omega) only [zl0, zl1, zl2, zl3, zl4, zl5, zl6, zl7, zl8, zl9, zl10, zl11, zl12, zl13, zl17, zl18, zl19, zl20, zl21, zl22, zl23, zl24, zl25, zl26, zl27, zl28, zl29, zl31, zl32, zl40, zl42, zl44, zl48, zl50, zl57, zl58, zl59, zl60, zl65, zl97, zl98, zl99, zl100, zl103, zl104, zl108, zl119, zl126, zl200, zl203, zl255, zl999, zl9999, zl720, zl232, z_add, z_le, z_lt, z_eq, z_clamp, z_in, z_m4, z_m4n, z_m1n, z_b0, z_b1, m_up_eq, m_up_ne, m_upd_eq, m_upd_ne, bd_s, op_s2, Bool.false_eq_true, eq_self, if_true, if_false, if_pos, if_neg, s18, mch, r1, t1]
        · rw [q4, p3 9 (by omega), hX.2.2.2.2.2.2.1, show (1 : Int32) = nI 1 from rfl, z_add]
        · rw [opnF_28 hp0 (by omega)]; exact hI.2.2.1
      · rw [decide_eq_false e4] at cd
        refine Good.same hrel hk (r := -2) ?_ ?_
        · unfold f_X8_door
          rw [bd_some xw, if_neg (by decide), bd_some cd, if_pos (by decide)]
        · unfold f_X9_door f_X9_door_30
          rw [bd_some mw, if_neg (by decide)]
          simp (disch := omega) only [zl0, zl1, zl2, zl3, zl4, zl5, zl6, zl7, zl8, zl9, zl10, zl11, zl12, zl13, zl17, zl18, zl19, zl20, zl21, zl22, zl23, zl24, zl25, zl26, zl27, zl28, zl29, zl31, zl32, zl40, zl42, zl44, zl48, zl50, zl57, zl58, zl59, zl60, zl65, zl97, zl98, zl99, zl100, zl103, zl104, zl108, zl119, zl126, zl200, zl203, zl255, zl999, zl9999, zl720, zl232, z_add, z_le, z_lt, z_eq, z_clamp, z_in, z_m4, z_m4n, z_m1n, z_b0, z_b1, m_up_eq, m_up_ne, m_upd_eq, m_upd_ne, bd_s, op_s2, Bool.false_eq_true, eq_self, if_true, if_false, if_pos, if_neg, s18, mch]
    · rw [decide_eq_false e3, Bool.false_and] at cd
      refine Good.same hrel hk (r := -2) ?_ ?_
      · unfold f_X8_door
        rw [bd_some xw, if_neg (by decide), bd_some cd, if_pos (by decide)]
      · unfold f_X9_door f_X9_door_30
        rw [bd_some mw, if_neg (by decide)]
        simp (disch := omega) only [zl0, zl1, zl2, zl3, zl4, zl5, zl6, zl7, zl8, zl9, zl10, zl11, zl12, zl13, zl17, zl18, zl19, zl20, zl21, zl22, zl23, zl24, zl25, zl26, zl27, zl28, zl29, zl31, zl32, zl40, zl42, zl44, zl48, zl50, zl57, zl58, zl59, zl60, zl65, zl97, zl98, zl99, zl100, zl103, zl104, zl108, zl119, zl126, zl200, zl203, zl255, zl999, zl9999, zl720, zl232, z_add, z_le, z_lt, z_eq, z_clamp, z_in, z_m4, z_m4n, z_m1n, z_b0, z_b1, m_up_eq, m_up_ne, m_upd_eq, m_upd_ne, bd_s, op_s2, Bool.false_eq_true, eq_self, if_true, if_false, if_pos, if_neg, s18]
  · rw [Bool.not_eq_true] at e1
    rw [e1] at xw mw
    refine Good.same hrel hk (r := -1) ?_ ?_
    · unfold f_X8_door
      rw [bd_some xw, if_pos (by decide)]
    · unfold f_X9_door
      rw [bd_some mw, if_pos (by decide)]
def pnF (p σ : Nat → Nat) : Nat → Nat → Nat
  | 0 => σ
  | n + 1 => paF p (pnF p σ n)
def pnB (p σ : Nat → Nat) : Nat → Nat
  | 0 => 0
  | n + 1 => pnB p σ n + paB p (pnF p σ n)
theorem HI_pn {p σ : Nat → Nat} (hp : PI p) (hH : HI p σ) : ∀ n, σ 28 + n ≤ 2000 → HI p (pnF p σ n) ∧ pnF p σ n 28 = σ 28 + n
  | 0, _ => ⟨hH, rfl⟩
  | n + 1, h => by
    obtain ⟨h1, h2⟩ := HI_pn hp hH n (by omega)
    exact ⟨HI_pa hp h1 (by omega), by rw [pnF, paF_28, h2]; omega⟩
theorem R_pass {k : Nat} {x m : fm_M} (h : Rel k x m) (hk : k < 1000) (v1 : Int32) : Good k (f_X8_pass v1 x) (f_X9_pass v1 m) := by
  have hrel := h
  obtain ⟨p, σ, t, tn, H, hn, K, kn, sc, sn, sl, sq, ch, hI, hX, hM⟩ := h
  have hp := hI.1
  have hH := hI.2.1
  have h28 := hI.2.2.1
  have hP := hX.1.1
  have hR := hX.2.1
  have hRM := hM.1
  have mi := M_in v1 1 40 m
  have c28 := hRM.2 28 (by omega)
  have q8 := hR.2.2.2.2.1
  by_cases e1 : v1 < 1
  · have e1' : ¬ (1 : Int32) ≤ v1 := by rw [Int32.not_le]; exact e1
    rw [decide_eq_false e1', Bool.false_and] at mi
    refine Good.same hrel hk (r := -1) ?_ ?_
    · unfold f_X8_pass f_X8_pass_11
      rw [if_pos e1]
    · unfold f_X9_pass
      rw [bd_some mi, if_pos (by decide)]
  · have e1' : (1 : Int32) ≤ v1 := Int32.not_lt.mp e1
    rw [decide_eq_true e1', Bool.true_and] at mi
    by_cases e2 : v1 ≤ 40
    · rw [decide_eq_true e2] at mi
      obtain ⟨n, hn0, rfl⟩ : ∃ n : Nat, n < 2147483648 ∧ v1 = nI n := by
        rcases z_cases v1 with ⟨q1, q2⟩ | q
        · exfalso
          have := Int32.le_iff_toInt_le.mp e1'
          rw [show (1 : Int32).toInt = 1 by decide] at this
          omega
        · exact q
      rw [show (1 : Int32) = nI 1 from rfl, z_le (by omega) hn0] at e1'
      rw [show (40 : Int32) = nI 40 from rfl, z_le hn0 (by omega)] at e2
      by_cases e3 : σ 28 + n ≤ 999
      · obtain ⟨x1, p1, p2, p3⟩ := X_push hp (Or.inl ⟨rfl, rfl⟩) hX.2.2.2.1 hR hH
        have hR1 : RH p σ x1 9 := hR.fr (fun c c1 c2 => p3 c (by omega))
        have hP1 : RP p x1 := hP.fr (p3 6 (by omega)) (p3 7 (by omega)) (p3 8 (by omega))
        have h10 : x1 9 10 = nI ch := by rw [p3 9 (by omega)]; exact hX.2.2.2.2.2.2.1
        obtain ⟨m1, r1, r2, r3, r4⟩ := M_keeps hRM.2 hM.2.2.1
        have hRM1 : RM p σ m1 := ⟨fun j hj => by rw [r3 2 (by omega) (by omega)]; exact hRM.1 j hj, fun j hj => by rw [r3 4 (by omega) (by omega)]; exact hRM.2 j hj⟩
        obtain ⟨xx, u1, x2, u2, u3, u4, u5⟩ := it_go (body := fun (yy : fm_M × Int32 × Int32) => f_X8_pass_46 (nI n) yy.1 yy.2.1 yy.2.2) (fun i t => ∃ s', t = (s', nI (pnB p σ i), nI i) ∧ RH p (pnF p σ i) s' 9 ∧ FH 9 x1 s' ∧ s' 9 10 = nI (ch + i)) (fun x => ∃ s', x = (s', nI (pnB p σ n), nI n) ∧ RH p (pnF p σ n) s' 9 ∧ FH 9 x1 s' ∧ s' 9 10 = nI (ch + n)) n (x1, 0, 0) (by omega) ⟨x1, rfl, hR1, FH.rf 9 x1, h10⟩ (by
          rintro i t hi ⟨s', rfl, w1, w2, w3⟩
          left
          obtain ⟨hHi, -⟩ := HI_pn hp hH i (by omega)
          obtain ⟨s2, z1, z2, z3, z4⟩ := X_goMinute hp (a := 9) (by omega) (hP1.fh (by omega) w2) w1 hHi
          refine ⟨(s2, nI (pnB p σ (i + 1)), nI (i + 1)), ?_, s2, rfl, z2, w2.tr z3, ?_⟩
          · dsimp only [f_X8_pass_46]
            simp (disch := omega) only [zl0, zl1, zl2, zl3, zl4, zl5, zl6, zl7, zl8, zl9, zl10, zl11, zl12, zl13, zl17, zl18, zl19, zl20, zl21, zl22, zl23, zl24, zl25, zl26, zl27, zl28, zl29, zl31, zl32, zl40, zl42, zl44, zl48, zl50, zl57, zl58, zl59, zl60, zl65, zl97, zl98, zl99, zl100, zl103, zl104, zl108, zl119, zl126, zl200, zl203, zl255, zl999, zl9999, zl720, zl232, z_add, z_le, z_lt, z_eq, z_clamp, z_in, z_m4, z_m4n, z_m1n, z_b0, z_b1, m_up_eq, m_up_ne, m_upd_eq, m_upd_ne, bd_s, op_s2, Bool.false_eq_true, eq_self, if_true, if_false, if_pos, if_neg, z1, pnB]
          · rw [z4, w3, show (1 : Int32) = nI 1 from rfl, z_add]; rfl) (by
          rintro t ⟨s', rfl, w⟩
          refine ⟨_, ?_, s', rfl, w⟩
          dsimp only [f_X8_pass_46]
          simp (disch := omega) only [zl0, zl1, zl2, zl3, zl4, zl5, zl6, zl7, zl8, zl9, zl10, zl11, zl12, zl13, zl17, zl18, zl19, zl20, zl21, zl22, zl23, zl24, zl25, zl26, zl27, zl28, zl29, zl31, zl32, zl40, zl42, zl44, zl48, zl50, zl57, zl58, zl59, zl60, zl65, zl97, zl98, zl99, zl100, zl103, zl104, zl108, zl119, zl126, zl200, zl203, zl255, zl999, zl9999, zl720, zl232, z_add, z_le, z_lt, z_eq, z_clamp, z_in, z_m4, z_m4n, z_m1n, z_b0, z_b1, m_up_eq, m_up_ne, m_upd_eq, m_upd_ne, bd_s, op_s2, Bool.false_eq_true, eq_self, if_true, if_false, if_pos, if_neg])
        obtain ⟨yy, y1, m2, y2, y3, y4⟩ := it_go (body := fun (yy : fm_M × Int32 × Int32) => f_X9_pass_38 (nI n) yy.1 yy.2.1 yy.2.2) (fun i t => ∃ s', t = (s', nI (pnB p σ i), nI i) ∧ RM p (pnF p σ i) s' ∧ FM m1 s') (fun x => ∃ s', x = (s', nI (pnB p σ n), nI n) ∧ RM p (pnF p σ n) s' ∧ FM m1 s') n (m1, 0, 0) (by omega) ⟨m1, rfl, hRM1, FM.rf m1⟩ (by
          rintro i t hi ⟨s', rfl, w1, w2⟩
          left
          obtain ⟨hHi, -⟩ := HI_pn hp hH i (by omega)
          obtain ⟨s2, z1, z2, z3⟩ := M_passes hp w1 hHi
          refine ⟨(s2, nI (pnB p σ (i + 1)), nI (i + 1)), ?_, s2, rfl, z2, w2.tr z3⟩
          dsimp only [f_X9_pass_38]
          simp (disch := omega) only [zl0, zl1, zl2, zl3, zl4, zl5, zl6, zl7, zl8, zl9, zl10, zl11, zl12, zl13, zl17, zl18, zl19, zl20, zl21, zl22, zl23, zl24, zl25, zl26, zl27, zl28, zl29, zl31, zl32, zl40, zl42, zl44, zl48, zl50, zl57, zl58, zl59, zl60, zl65, zl97, zl98, zl99, zl100, zl103, zl104, zl108, zl119, zl126, zl200, zl203, zl255, zl999, zl9999, zl720, zl232, z_add, z_le, z_lt, z_eq, z_clamp, z_in, z_m4, z_m4n, z_m1n, z_b0, z_b1, m_up_eq, m_up_ne, m_upd_eq, m_upd_ne, bd_s, op_s2, Bool.false_eq_true, eq_self, if_true, if_false, if_pos, if_neg, z1, pnB]) (by
          rintro t ⟨s', rfl, w⟩
          refine ⟨_, ?_, s', rfl, w⟩
          dsimp only [f_X9_pass_38]
          simp (disch := omega) only [zl0, zl1, zl2, zl3, zl4, zl5, zl6, zl7, zl8, zl9, zl10, zl11, zl12, zl13, zl17, zl18, zl19, zl20, zl21, zl22, zl23, zl24, zl25, zl26, zl27, zl28, zl29, zl31, zl32, zl40, zl42, zl44, zl48, zl50, zl57, zl58, zl59, zl60, zl65, zl97, zl98, zl99, zl100, zl103, zl104, zl108, zl119, zl126, zl200, zl203, zl255, zl999, zl9999, zl720, zl232, z_add, z_le, z_lt, z_eq, z_clamp, z_in, z_m4, z_m4n, z_m1n, z_b0, z_b1, m_up_eq, m_up_ne, m_upd_eq, m_upd_ne, bd_s, op_s2, Bool.false_eq_true, eq_self, if_true, if_false, if_pos, if_neg])
        obtain ⟨hHn, hn28⟩ := HI_pn hp hH n (by omega)
        refine ⟨nI (pnB p σ n), x2, m2, ?_, ?_, rel_act (d := n) hI hX hM hk p2 p3 u3 u4 u5 (by omega) (by omega) hHn (by rw [hn28]; exact e3) r2 r3 r4 y3 y4⟩
        · unfold f_X8_pass
          rw [if_neg e1, if_pos (by rw [show (40 : Int32) = nI 40 from rfl, z_le hn0 (by omega)]; exact e2), q8, z_add, if_pos (by rw [show (999 : Int32) = nI 999 from rfl, z_le (by omega) (by omega)]; exact e3), bd_some p1, op_some u1, u2]
        · unfold f_X9_pass
          rw [bd_some mi, if_neg (by decide), if_pos (by decide), show (28 : Int32).toNatClampNeg = 28 by decide, c28, z_add, if_pos (by rw [show (999 : Int32) = nI 999 from rfl, z_le (by omega) (by omega)]; exact e3), bd_some r1, op_some y1, y2]
      · refine Good.same hrel hk (r := -2) ?_ ?_
        · unfold f_X8_pass
          rw [if_neg e1, if_pos (by rw [show (40 : Int32) = nI 40 from rfl, z_le hn0 (by omega)]; exact e2), q8, z_add, if_neg (by rw [show (999 : Int32) = nI 999 from rfl, z_le (by omega) (by omega)]; exact e3)]
        · unfold f_X9_pass
          rw [bd_some mi, if_neg (by decide), if_pos (by decide), show (28 : Int32).toNatClampNeg = 28 by decide, c28, z_add, if_neg (by rw [show (999 : Int32) = nI 999 from rfl, z_le (by omega) (by omega)]; exact e3)]
    · rw [decide_eq_false e2] at mi
      refine Good.same hrel hk (r := -1) ?_ ?_
      · unfold f_X8_pass f_X8_pass_11
        rw [if_neg e1, if_neg e2]
      · unfold f_X9_pass
        rw [bd_some mi, if_pos (by decide)]
