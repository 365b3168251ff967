/-! undone, kept, letters, seen, asked -/
theorem R_undo {k : Nat} {x m : fm_M} (h : Rel k x m) (hk : k < 1000) : Good k (f_X8_undo x) (f_X9_undo m) := by
  have hrel := h
  obtain ⟨p, σ, t, tn, H, hn, K, kn, sc, sn, sl, sq, ch, hI, hX, hM⟩ := h
  obtain ⟨i1, i2, i3, i4, i5, i6, i7, i8, i9⟩ := hI
  obtain ⟨⟨h1, h1'⟩, h2, h3, h4, h5, h6, h7, h8, h9, h10⟩ := hX
  obtain ⟨m1', m2', m3', m4', m5'⟩ := hM
  have hcx : x 16 2 = nI hn := by obtain ⟨_, _, _, _, q, _⟩ := h4; exact q
  have hcm := m3'.2.1
  have hl := m3'.1
  cases hn with
  | zero =>
    refine Good.same hrel hk (r := -2) ?_ ?_
    · unfold f_X8_undo
      rw [hcx, if_pos (by decide)]
    · unfold f_X9_undo
      rw [hcm, if_pos (by decide)]
  | succ n =>
    obtain ⟨hH0, h028⟩ := i5 0 (by omega)
    obtain ⟨x', q1, q2, q3, q4, q5⟩ := X_pop i1 (Or.inl ⟨rfl, rfl⟩) h4 hH0
    obtain ⟨m', r1, r2, r3, r4, r5⟩ := M_undo m3'
    have e98 := q5 98 (by omega) (by omega)
    have e2 : x' 16 2 = nI n := by obtain ⟨_, _, _, _, q, _⟩ := q2; exact q
    have e10 : x' 9 10 = nI (ch + 1) := by rw [q4, h7, show (1 : Int32) = nI 1 from rfl, z_add]
    refine ⟨nI n, x', m', ?_, r1, p, H 0, t, tn, fun k => H (k + 1), n, K, kn, sc, sn, sl, sq, ch + 1, ⟨i1, hH0, h028, i4, fun k hk => i5 (k + 1) (by omega), i6, i7, by omega, by omega⟩, ⟨⟨h1.fr (q5 6 (by omega) (by omega)) (q5 7 (by omega) (by omega)) (q5 8 (by omega) (by omega)), by rw [q5 6 (by omega) (by omega)]; exact h1'⟩, q3, h3.fr (q5 1 (by omega) (by omega)) (q5 2 (by omega) (by omega)), q2, h5.fr (fun c c1 c2 => q5 c (by omega) (by omega)), h6.fr (fun c c1 c2 => q5 c (by omega) (by omega)), e10, ?_, ?_, fun j hj => by rw [q5 1000 (by omega) (by omega)]; exact h10 j hj⟩, ⟨⟨fun j hj => by rw [r4 2 (by omega) (by omega)]; exact m1'.1 j hj, r3⟩, ?_, r2, ?_, ?_⟩⟩
    · unfold f_X8_undo
      rw [hcx, show (0 : Int32) = nI 0 from rfl, if_neg (by rw [z_eq (by omega) (by omega)]; omega), bd_some q1, e2]
    · intro q
      rw [e98, e10] at q
      exact absurd q (ch_ne h9 (by omega) (by omega))
    · rw [e98]
      rcases h9 with h | ⟨ta, h, hl⟩
      · exact Or.inl h
      · exact Or.inr ⟨ta, h, by omega⟩
    · unfold TMc; rw [r5 1 (by omega), r4 1 (by omega) (by omega)]; exact m2'
    · unfold KM; rw [r5 8 (by omega), r4 6 (by omega) (by omega)]; exact m4'
    · unfold SM; rw [r5 10 (by omega), r4 7 (by omega) (by omega)]; exact m5'
theorem R_keep {k : Nat} {x m : fm_M} (h : Rel k x m) (hk : k < 1000) : Good k (f_X8_keep x) (f_X9_keep m) := by
  have hrel := h
  obtain ⟨p, σ, t, tn, H, hn, K, kn, sc, sn, sl, sq, ch, hI, hX, hM⟩ := h
  obtain ⟨i1, i2, i3, i4, i5, i6, i7, i8, i9⟩ := hI
  obtain ⟨⟨h1, h1'⟩, h2, h3, h4, h5, h6, h7, h8, h9, h10⟩ := hX
  obtain ⟨m1', m2', m3', m4', m5'⟩ := hM
  have hcx : x 74 2 = nI kn := by obtain ⟨_, _, _, _, q, _⟩ := h5; exact q
  have hcm := m4'.2.1
  have hl := m4'.1
  by_cases e : kn < 2
  · obtain ⟨x', q1, q2, q3⟩ := X_push i1 (Or.inr ⟨rfl, rfl⟩) h5 h2 i2
    obtain ⟨m', r1, r2, r3, r4⟩ := M_keep e m1'.2 m4'
    rw [if_neg (by omega)] at q2
    have e98 := q3 98 (by omega)
    have e9 := q3 9 (by omega)
    have e2 : x' 74 2 = nI (kn + 1) := by obtain ⟨_, _, _, _, q, _⟩ := q2; exact q
    refine ⟨nI (kn + 1), x', m', ?_, r1, p, σ, t, tn, H, hn, push σ K, kn + 1, sc, sn, sl, sq, ch, ⟨i1, i2, i3, i4, i5, ?_, i7, by omega, by omega⟩, ⟨⟨h1.fr (q3 6 (by omega)) (q3 7 (by omega)) (q3 8 (by omega)), by rw [q3 6 (by omega)]; exact h1'⟩, h2.fr (fun c c1 c2 => q3 c (by omega)), h3.fr (q3 1 (by omega)) (q3 2 (by omega)), h4.fr (fun c c1 c2 => q3 c (by omega)), q2, h6.fr (fun c c1 c2 => q3 c (by omega)), by rw [e9]; exact h7, ?_, by rw [e98]; exact h9, fun j hj => by rw [q3 1000 (by omega)]; exact h10 j hj⟩, ⟨⟨fun j hj => by rw [r3 2 (by omega) (by omega)]; exact m1'.1 j hj, fun j hj => by rw [r3 4 (by omega) (by omega)]; exact m1'.2 j hj⟩, ?_, ?_, r2, ?_⟩⟩
    · unfold f_X8_keep
      rw [hcx, show (2 : Int32) = nI 2 from rfl, if_pos (by rw [z_lt (by omega) (by omega)]; exact e), bd_some q1, e2]
    · have := push_PI (N := 2) i6 i2 i3
      rwa [if_neg (by omega)] at this
    · rw [e98, e9]
      exact fun q => (h8 q).fr e98 (q3 100 (by omega))
    · unfold TMc; rw [r4 1 (by omega), r3 1 (by omega) (by omega)]; exact m2'
    · unfold PM; rw [r4 6 (by omega), r3 5 (by omega) (by omega)]; exact m3'
    · unfold SM; rw [r4 10 (by omega), r3 7 (by omega) (by omega)]; exact m5'
  · have e2 : kn = 2 := by omega
    subst e2
    refine Good.same hrel hk (r := -3) ?_ ?_
    · unfold f_X8_keep
      rw [hcx, if_neg (by decide)]
    · unfold f_X9_keep
      rw [hcm, if_pos (by decide)]
theorem R_back {k : Nat} {x m : fm_M} (h : Rel k x m) (hk : k < 1000) : Good k (f_X8_back x) (f_X9_back m) := by
  have hrel := h
  obtain ⟨p, σ, t, tn, H, hn, K, kn, sc, sn, sl, sq, ch, hI, hX, hM⟩ := h
  obtain ⟨i1, i2, i3, i4, i5, i6, i7, i8, i9⟩ := hI
  obtain ⟨⟨h1, h1'⟩, h2, h3, h4, h5, h6, h7, h8, h9, h10⟩ := hX
  obtain ⟨m1', m2', m3', m4', m5'⟩ := hM
  have hcx : x 74 2 = nI kn := by obtain ⟨_, _, _, _, q, _⟩ := h5; exact q
  have hcm := m4'.2.1
  have hl := m4'.1
  cases kn with
  | zero =>
    refine Good.same hrel hk (r := -2) ?_ ?_
    · unfold f_X8_back
      rw [hcx, if_pos (by decide)]
    · unfold f_X9_back
      rw [hcm, if_pos (by decide)]
  | succ n =>
    obtain ⟨hH0, h028⟩ := i6 0 (by omega)
    obtain ⟨x1, q1, q2, q3, q4, q5⟩ := X_pop i1 (Or.inr ⟨rfl, rfl⟩) h5 hH0
    obtain ⟨m', r1, r2, r3, r4, r5, r6⟩ := M_back m4'
    have hx : ∀ c, ¬ c = 16 → fm_up x1 16 2 (nI 0) c = x1 c := fun c hc => m_up_ne hc
    have e98 : fm_up x1 16 2 (nI 0) 98 = x 98 := by rw [hx 98 (by omega), q5 98 (by omega) (by omega)]
    have e2 : x1 74 2 = nI n := by obtain ⟨_, _, _, _, q, _⟩ := q2; exact q
    have e10 : fm_up x1 16 2 (nI 0) 9 10 = nI (ch + 1) := by rw [hx 9 (by omega), q4, h7, show (1 : Int32) = nI 1 from rfl, z_add]
    have ex : ∀ c, ¬ c = 16 → ¬ c = 74 → ¬ (9 ≤ c ∧ c ≤ 15) → fm_up x1 16 2 (nI 0) c = x c := fun c c1 c2 c3 => by rw [hx c c1, q5 c c2 c3]
    obtain ⟨z0, top, z1, z2, z3, z4⟩ := h4
    refine ⟨nI n, fm_up x1 16 2 (nI 0), m', ?_, r1, p, K 0, t, tn, H, 0, fun k => K (k + 1), n, sc, sn, sl, sq, ch + 1, ⟨i1, hH0, h028, i4, fun k hk => by omega, fun k hk => i6 (k + 1) (by omega), i7, by omega, by omega⟩, ⟨⟨h1.fr (ex 6 (by omega) (by omega) (by omega)) (ex 7 (by omega) (by omega) (by omega)) (ex 8 (by omega) (by omega) (by omega)), by rw [ex 6 (by omega) (by omega) (by omega)]; exact h1'⟩, q3.fr (fun c c1 c2 => hx c (by omega)), h3.fr (ex 1 (by omega) (by omega) (by omega)) (ex 2 (by omega) (by omega) (by omega)), ⟨by omega, top, z1, by rw [m_up_eq, m_upd_ne (by omega), q5 16 (by omega) (by omega)]; exact z2, by rw [m_up_eq, m_upd_eq], fun k hk => by omega⟩, q2.fr (fun c c1 c2 => hx c (by omega)), h6.fr (fun c c1 c2 => ex c (by omega) (by omega) (by omega)), e10, ?_, ?_, fun j hj => by rw [ex 1000 (by omega) (by omega) (by omega)]; exact h10 j hj⟩, ⟨⟨fun j hj => by rw [r4 2 (by omega) (by omega)]; exact m1'.1 j hj, r3⟩, ?_, ⟨by omega, r5, fun k hk => by omega⟩, r2, ?_⟩⟩
    · unfold f_X8_back f_X3_clear
      rw [hcx, show (0 : Int32) = nI 0 from rfl, if_neg (by rw [z_eq (by omega) (by omega)]; omega), bd_some q1, bd_s, hx 74 (by omega), e2]
    · intro q
      rw [e98, e10] at q
      exact absurd q (ch_ne h9 (by omega) (by omega))
    · rw [e98]
      rcases h9 with h | ⟨ta, h, hl⟩
      · exact Or.inl h
      · exact Or.inr ⟨ta, h, by omega⟩
    · unfold TMc; rw [r6 1 (by omega) (by omega), r4 1 (by omega) (by omega)]; exact m2'
    · unfold SM; rw [r6 10 (by omega) (by omega), r4 7 (by omega) (by omega)]; exact m5'
/-- the class's side behind a change of the letters -/
theorem XS.tx {p σ t t' : Nat → Nat} {tn tn' : Nat} {H : Nat → Nat → Nat} {hn : Nat} {K : Nat → Nat → Nat} {kn : Nat} {sc sn sl : Nat → Nat} {sq ch : Nat} {x x' : fm_M} (h : XS p σ t tn H hn K kn sc sn sl sq ch x) (e : ∀ c, ¬ c = 1 → ¬ c = 2 → x' c = x c) (ht : TXc t' tn' x') : XS p σ t' tn' H hn K kn sc sn sl sq ch x' := by
  obtain ⟨⟨h1, h1'⟩, h2, h3, h4, h5, h6, h7, h8, h9, h10⟩ := h
  have e9 := e 9 (by omega) (by omega)
  have e98 := e 98 (by omega) (by omega)
  refine ⟨⟨h1.fr (e 6 (by omega) (by omega)) (e 7 (by omega) (by omega)) (e 8 (by omega) (by omega)), by rw [e 6 (by omega) (by omega)]; exact h1'⟩, h2.fr (fun c c1 c2 => e c (by omega) (by omega)), ht, h4.fr (fun c c1 c2 => e c (by omega) (by omega)), h5.fr (fun c c1 c2 => e c (by omega) (by omega)), h6.fr (fun c c1 c2 => e c (by omega) (by omega)), by rw [e9]; exact h7, ?_, by rw [e98]; exact h9, fun j hj => by rw [e 1000 (by omega) (by omega)]; exact h10 j hj⟩
  rw [e98, e9]
  exact fun q => (h8 q).fr e98 (e 100 (by omega) (by omega))
theorem XS.sx {p σ t : Nat → Nat} {tn : Nat} {H : Nat → Nat → Nat} {hn : Nat} {K : Nat → Nat → Nat} {kn : Nat} {sc sn sl sc' sn' sl' : Nat → Nat} {sq sq' ch : Nat} {x x' : fm_M} (h : XS p σ t tn H hn K kn sc sn sl sq ch x) (e : ∀ c, ¬ (101 ≤ c ∧ c ≤ 104) → x' c = x c) (ht : SX sc' sn' sl' sq' x') : XS p σ t tn H hn K kn sc' sn' sl' sq' ch x' := by
  obtain ⟨⟨h1, h1'⟩, h2, h3, h4, h5, h6, h7, h8, h9, h10⟩ := h
  have e9 := e 9 (by omega)
  have e98 := e 98 (by omega)
  refine ⟨⟨h1.fr (e 6 (by omega)) (e 7 (by omega)) (e 8 (by omega)), by rw [e 6 (by omega)]; exact h1'⟩, h2.fr (fun c c1 c2 => e c (by omega)), h3.fr (e 1 (by omega)) (e 2 (by omega)), h4.fr (fun c c1 c2 => e c (by omega)), h5.fr (fun c c1 c2 => e c (by omega)), ht, by rw [e9]; exact h7, ?_, by rw [e98]; exact h9, fun j hj => by rw [e 1000 (by omega)]; exact h10 j hj⟩
  rw [e98, e9]
  exact fun q => (h8 q).fr e98 (e 100 (by omega))
theorem MS.tx {p σ t t' : Nat → Nat} {tn tn' : Nat} {H : Nat → Nat → Nat} {hn : Nat} {K : Nat → Nat → Nat} {kn : Nat} {sc sn sl : Nat → Nat} {sq : Nat} {m m' : fm_M} (h : MS p σ t tn H hn K kn sc sn sl sq m) (e : ∀ c, ¬ c = 0 → ¬ c = 1 → m' c = m c) (e0 : ∀ k, ¬ k = 1 → m' 0 k = m 0 k) (ht : TMc t' tn' m') : MS p σ t' tn' H hn K kn sc sn sl sq m' := by
  obtain ⟨h1, h2, h3, h4, h5⟩ := h
  refine ⟨⟨fun j hj => by rw [e 2 (by omega) (by omega)]; exact h1.1 j hj, fun j hj => by rw [e 4 (by omega) (by omega)]; exact h1.2 j hj⟩, ht, ?_, ?_, ?_⟩
  · unfold PM; rw [e0 6 (by omega), e 5 (by omega) (by omega)]; exact h3
  · unfold KM; rw [e0 8 (by omega), e 6 (by omega) (by omega)]; exact h4
  · unfold SM; rw [e0 10 (by omega), e 7 (by omega) (by omega)]; exact h5
theorem MS.sx {p σ t : Nat → Nat} {tn : Nat} {H : Nat → Nat → Nat} {hn : Nat} {K : Nat → Nat → Nat} {kn : Nat} {sc sn sl sc' sn' sl' : Nat → Nat} {sq sq' : Nat} {m m' : fm_M} (h : MS p σ t tn H hn K kn sc sn sl sq m) (e : ∀ c, ¬ c = 0 → ¬ c = 7 → m' c = m c) (e0 : ∀ k, ¬ k = 10 → m' 0 k = m 0 k) (ht : SM sc' sn' sl' sq' m') : MS p σ t tn H hn K kn sc' sn' sl' sq' m' := by
  obtain ⟨h1, h2, h3, h4, h5⟩ := h
  refine ⟨⟨fun j hj => by rw [e 2 (by omega) (by omega)]; exact h1.1 j hj, fun j hj => by rw [e 4 (by omega) (by omega)]; exact h1.2 j hj⟩, ?_, ?_, ?_, ht⟩
  · unfold TMc; rw [e0 1 (by omega), e 1 (by omega) (by omega)]; exact h2
  · unfold PM; rw [e0 6 (by omega), e 5 (by omega) (by omega)]; exact h3
  · unfold KM; rw [e0 8 (by omega), e 6 (by omega) (by omega)]; exact h4
theorem z_char {n : Nat} (h : n < 65536) : ((nI n).toUInt32 % 65536).toInt32 = nI n := by
  rw [pk_char, pk_tn (by omega), Nat.mod_eq_of_lt h]
theorem z_narc {n : Nat} (h : n < 65536) : vp_nar .char (nI n) = nI n := by
  have := pk_vc (nI n)
  rwa [z_char h] at this
theorem R_wipe {k : Nat} {x m : fm_M} (h : Rel k x m) (hk : k < 1000) : Good k (f_X8_wipe x) (f_X9_wipe m) := by
  obtain ⟨p, σ, t, tn, H, hn, K, kn, sc, sn, sl, sq, ch, hI, hX, hM⟩ := h
  have ex := hX.2.2.1.1
  have em := hM.2.1.1
  refine ⟨nI tn, fm_up x 1 1 (nI 0), fm_up m 0 1 (nI 0), by unfold f_X8_wipe f_X7_clear; rw [bd_s, ex]; rfl, by unfold f_X9_wipe; rw [em]; rfl, p, σ, t, 0, H, hn, K, kn, sc, sn, sl, sq, ch, ?_, hX.tx (fun c c1 c2 => m_up_ne c1) ⟨by rw [m_up_eq, m_upd_eq], fun j hj => by omega⟩, hM.tx (fun c c0 c1 => m_up_ne c0) (fun k hk => by rw [m_up_eq, m_upd_ne hk]) ⟨by rw [m_up_eq, m_upd_eq], fun j hj => by omega⟩⟩
  obtain ⟨i1, i2, i3, i4, i5, i6, i7, i8, i9⟩ := hI
  exact ⟨i1, i2, i3, ⟨by omega, fun j hj => by omega⟩, i5, i6, i7, by omega, by omega⟩
theorem R_write {k : Nat} {x m : fm_M} (h : Rel k x m) (hk : k < 1000) (v1 : Int32) : Good k (f_X8_write v1 x) (f_X9_write v1 m) := by
  have hrel := h
  obtain ⟨p, σ, t, tn, H, hn, K, kn, sc, sn, sl, sq, ch, hI, hX, hM⟩ := h
  have ex := hX.2.2.1
  have em := hM.2.1
  have ti := hI.2.2.2.1
  have htn := ti.1
  have mi := M_in v1 32 126 m
  by_cases e1 : v1 < 32
  · have e1' : ¬ (32 : Int32) ≤ v1 := by rw [Int32.not_le]; exact e1
    rw [decide_eq_false e1', Bool.false_and] at mi
    refine Good.same hrel hk (r := -1) ?_ ?_
    · unfold f_X8_write f_X8_write_12
      rw [if_pos e1]
    · unfold f_X9_write
      rw [bd_some mi, if_pos (by decide)]
  · have e1' : (32 : Int32) ≤ v1 := Int32.not_lt.mp e1
    rw [decide_eq_true e1', Bool.true_and] at mi
    by_cases e2 : v1 ≤ 126
    · rw [decide_eq_true e2] at mi
      obtain ⟨n, hn0, rfl⟩ : ∃ n : Nat, n < 2147483648 ∧ v1 = nI n := by
        rcases z_cases v1 with ⟨q1, q2⟩ | q
        · exfalso
          have := Int32.le_iff_toInt_le.mp e1'
          rw [show (32 : Int32).toInt = 32 by decide] at this
          omega
        · exact q
      have e1n := e1'
      have e2n := e2
      rw [show (32 : Int32) = nI 32 from rfl, z_le (by omega) hn0] at e1n
      rw [show (126 : Int32) = nI 126 from rfl, z_le hn0 (by omega)] at e2n
      by_cases e3 : tn = 200
      · refine Good.same hrel hk (r := -3) ?_ ?_
        · unfold f_X8_write f_X7_add f_X7_add_19 f_X8_write_38
          rw [if_neg e1, if_pos e2, ex.1, e3]
          rfl
        · unfold f_X9_write
          rw [bd_some mi, if_neg (by decide), em.1, e3]
          rfl
      · refine ⟨nI (tn + 1), fm_up (fm_up x 2 tn (nI n)) 1 1 (nI (tn + 1)), fm_up (fm_up m 1 tn (nI n)) 0 1 (nI (tn + 1)), ?_, ?_, p, σ, fun j => if j = tn then n else t j, tn + 1, H, hn, K, kn, sc, sn, sl, sq, ch, ?_, hX.tx (fun c c1 c2 => by rw [m_up_ne c1, m_up_ne c2]) ⟨by rw [m_up_eq, m_upd_eq], fun j hj => ?_⟩, hM.tx (fun c c0 c1 => by rw [m_up_ne c0, m_up_ne c1]) (fun k hk => by rw [m_up_eq, m_upd_ne hk, m_up_ne (by omega)]) ⟨by rw [m_up_eq, m_upd_eq], fun j hj => ?_⟩⟩
        · unfold f_X8_write f_X7_add f_X7_add_19 f_X8_write_38
          have e4 := ex.1
          rw [if_neg e1, if_pos e2, z_char (by omega), z_narc (by omega)]
          simp (disch := omega) only [zl0, zl1, zl2, zl3, zl4, zl5, zl6, zl7, zl8, zl9, zl10, zl11, zl12, zl13, zl17, zl18, zl19, zl20, zl21, zl22, zl23, zl24, zl25, zl26, zl27, zl28, zl29, zl31, zl32, zl40, zl42, zl44, zl48, zl50, zl57, zl58, zl59, zl60, zl65, zl97, zl98, zl99, zl100, zl103, zl104, zl108, zl119, zl126, zl200, zl203, zl255, zl999, zl9999, zl720, zl232, z_add, z_le, z_lt, z_eq, z_clamp, z_in, z_m4, z_m4n, z_m1n, z_b0, z_b1, m_up_eq, m_up_ne, m_upd_eq, m_upd_ne, bd_s, op_s2, Bool.false_eq_true, eq_self, if_true, if_false, if_pos, if_neg, e4]
        · unfold f_X9_write
          have e4 := em.1
          rw [bd_some mi, if_neg (by decide)]
          simp (disch := omega) only [zl0, zl1, zl2, zl3, zl4, zl5, zl6, zl7, zl8, zl9, zl10, zl11, zl12, zl13, zl17, zl18, zl19, zl20, zl21, zl22, zl23, zl24, zl25, zl26, zl27, zl28, zl29, zl31, zl32, zl40, zl42, zl44, zl48, zl50, zl57, zl58, zl59, zl60, zl65, zl97, zl98, zl99, zl100, zl103, zl104, zl108, zl119, zl126, zl200, zl203, zl255, zl999, zl9999, zl720, zl232, z_add, z_le, z_lt, z_eq, z_clamp, z_in, z_m4, z_m4n, z_m1n, z_b0, z_b1, m_up_eq, m_up_ne, m_upd_eq, m_upd_ne, bd_s, op_s2, Bool.false_eq_true, eq_self, if_true, if_false, if_pos, if_neg, e4]
        · obtain ⟨i1, i2, i3, i4, i5, i6, i7, i8, i9⟩ := hI
          refine ⟨i1, i2, i3, ⟨by omega, fun j hj => ?_⟩, i5, i6, i7, by omega, by omega⟩
          dsimp only
          by_cases e : j = tn
          · rw [if_pos e]; omega
          · rw [if_neg e]; exact i4.2 j (by omega)
        · rw [m_up_ne (by omega), m_up_eq]
          dsimp only
          by_cases e : j = tn
          · subst e; rw [m_upd_eq, if_pos rfl]
          · rw [m_upd_ne e, if_neg e]; exact ex.2 j (by omega)
        · rw [m_up_ne (by omega), m_up_eq]
          dsimp only
          by_cases e : j = tn
          · subst e; rw [m_upd_eq, if_pos rfl]
          · rw [m_upd_ne e, if_neg e]; exact em.2 j (by omega)
    · rw [decide_eq_false e2] at mi
      refine Good.same hrel hk (r := -1) ?_ ?_
      · unfold f_X8_write f_X8_write_12
        rw [if_neg e1, if_neg e2]
      · unfold f_X9_write
        rw [bd_some mi, if_pos (by decide)]
theorem R_forget {k : Nat} {x m : fm_M} (h : Rel k x m) (hk : k < 1000) : Good k (f_X8_forget x) (f_X9_forget m) := by
  obtain ⟨p, σ, t, tn, H, hn, K, kn, sc, sn, sl, sq, ch, hI, hX, hM⟩ := h
  have ex := hX.2.2.2.2.2.1.1
  have em := hM.2.2.2.2.1
  refine ⟨nI sq, fm_up x 101 3 (nI 0), fm_up m 0 10 (nI 0), by unfold f_X8_forget; rw [ex]; rfl, by unfold f_X9_forget; rw [em]; rfl, p, σ, t, tn, H, hn, K, kn, sc, sn, sl, 0, ch, ?_, hX.sx (fun c c1 => m_up_ne (by omega)) ⟨by rw [m_up_eq, m_upd_eq], fun j hj => by omega⟩, hM.sx (fun c c0 c1 => m_up_ne c0) (fun k hk => by rw [m_up_eq, m_upd_ne hk]) ⟨by rw [m_up_eq, m_upd_eq], fun j hj => by omega⟩⟩
  obtain ⟨i1, i2, i3, i4, i5, i6, i7, i8, i9⟩ := hI
  exact ⟨i1, i2, i3, i4, i5, i6, ⟨by omega, fun j hj => by omega⟩, by omega, by omega⟩
/-- an int between two numbers -/
theorem z_rng {v : Int32} {a b : Nat} (ha : a < 2147483648) (hb : b < 2147483648) (h1 : nI a ≤ v) (h2 : v ≤ nI b) : ∃ n, a ≤ n ∧ n ≤ b ∧ v = nI n := by
  rcases z_cases v with ⟨q1, q2⟩ | ⟨n, hn, rfl⟩
  · rw [z_neg_ge q1 ha] at h1; exact h1.elim
  · rw [z_le ha hn] at h1
    rw [z_le hn hb] at h2
    exact ⟨n, h1, h2, rfl⟩
theorem R_seen {k : Nat} {x m : fm_M} (h : Rel k x m) (hk : k < 1000) (v1 v2 v3 : Int32) : Good k (f_X8_seen v1 v2 v3 x) (f_X9_seen v1 v2 v3 m) := by
  have hrel := h
  obtain ⟨p, σ, t, tn, H, hn, K, kn, sc, sn, sl, sq, ch, hI, hX, hM⟩ := h
  have hp := hI.1
  have hp0 := hp.2.2.1
  have ex := hX.2.2.2.2.2.1
  have em := hM.2.2.2.2
  have si := hI.2.2.2.2.2.2.1
  have xc := X_hasChild hp hX.1.1.1 v1
  have mc := M_isChild hp hM.1 v1
  have mi2 := M_in v2 1 20 m
  have mi3 := M_in v3 0 1 m
  by_cases e1 : fm_in v1 (p 0) = true
  · rw [e1] at xc mc
    obtain ⟨c, hc, rfl⟩ := in_nI e1
    by_cases e2 : v2 < 1
    · have e2' : ¬ (1 : Int32) ≤ v2 := by rw [Int32.not_le]; exact e2
      rw [decide_eq_false e2', Bool.false_and] at mi2
      refine Good.same hrel hk (r := -1) ?_ ?_
      · unfold f_X8_seen f_X8_seen_31
        rw [bd_some xc, if_neg (by decide), if_pos e2]
      · unfold f_X9_seen f_X9_seen_27
        rw [bd_some mc, if_neg (by decide), bd_some mi2, if_pos (by decide)]
    · have e2' : (1 : Int32) ≤ v2 := Int32.not_lt.mp e2
      rw [decide_eq_true e2', Bool.true_and] at mi2
      by_cases e3 : 20 < v2
      · have e3' : ¬ v2 ≤ (20 : Int32) := by rw [Int32.not_le]; exact e3
        rw [decide_eq_false e3'] at mi2
        refine Good.same hrel hk (r := -1) ?_ ?_
        · unfold f_X8_seen f_X8_seen_31
          rw [bd_some xc, if_neg (by decide), if_neg e2, if_pos e3]
        · unfold f_X9_seen f_X9_seen_27
          rw [bd_some mc, if_neg (by decide), bd_some mi2, if_pos (by decide)]
      · have e3' : v2 ≤ (20 : Int32) := Int32.not_lt.mp e3
        rw [decide_eq_true e3'] at mi2
        obtain ⟨n, n1, n2, rfl⟩ := z_rng (a := 1) (b := 20) (by omega) (by omega) e2' e3'
        by_cases e4 : v3 < 0
        · have e4' : ¬ (0 : Int32) ≤ v3 := by rw [Int32.not_le]; exact e4
          rw [decide_eq_false e4', Bool.false_and] at mi3
          refine Good.same hrel hk (r := -1) ?_ ?_
          · unfold f_X8_seen f_X8_seen_31
            rw [bd_some xc, if_neg (by decide), if_neg e2, if_neg e3, if_pos e4]
          · unfold f_X9_seen f_X9_seen_27
            rw [bd_some mc, if_neg (by decide), bd_some mi2, if_neg (by decide), bd_some mi3, if_pos (by decide)]
        · have e4' : (0 : Int32) ≤ v3 := Int32.not_lt.mp e4
          rw [decide_eq_true e4', Bool.true_and] at mi3
          by_cases e5 : v3 ≤ 1
          · rw [decide_eq_true e5] at mi3
            obtain ⟨q, q1, q2, rfl⟩ := z_rng (a := 0) (b := 1) (by omega) (by omega) e4' e5
            have hq : vp_nar .boolean (nI q) = nI q := by
              rcases (show q = 0 ∨ q = 1 by omega) with rfl | rfl <;> decide
            have h49 : f_X8_seen (nI c) (nI n) (nI q) x = f_X8_seen_49 (nI q) (nI n) (nI c) x := by
              unfold f_X8_seen
              rw [bd_some xc, if_neg (by decide), if_neg e2, if_neg e3, if_neg e4, if_pos e5]
              rcases (show q = 0 ∨ q = 1 by omega) with rfl | rfl
              · rw [if_neg (by decide)]; rfl
              · rw [if_pos (by decide)]; rfl
            have hsq := si.1
            by_cases e6 : sq = 8
            · refine Good.same hrel hk (r := -3) ?_ ?_
              · rw [h49]
                unfold f_X8_seen_49 f_X6_add f_X6_add_16 f_X8_seen_67
                rw [ex.1, e6]
                rfl
              · unfold f_X9_seen
                rw [bd_some mc, if_neg (by decide), bd_some mi2, if_neg (by decide), bd_some mi3, if_neg (by decide), em.1, e6]
                rfl
            · refine ⟨nI (sq + 1), fm_up (fm_up (fm_up (fm_up x 102 sq (nI c)) 103 sq (nI n)) 104 sq (nI q)) 101 3 (nI (sq + 1)), fm_up (fm_up m 7 sq (nI (100 * c + 2 * n + q))) 0 10 (nI (sq + 1)), ?_, ?_, p, σ, t, tn, H, hn, K, kn, fun j => if j = sq then c else sc j, fun j => if j = sq then n else sn j, fun j => if j = sq then q else sl j, sq + 1, ch, ?_, hX.sx (fun c c1 => by rw [m_up_ne (by omega), m_up_ne (by omega), m_up_ne (by omega), m_up_ne (by omega)]) ⟨by rw [m_up_eq, m_upd_eq], fun j hj => ?_⟩, hM.sx (fun c c0 c1 => by rw [m_up_ne c0, m_up_ne c1]) (fun k hk => by rw [m_up_eq, m_upd_ne hk, m_up_ne (by omega)]) ⟨by rw [m_up_eq, m_upd_eq], fun j hj => ?_⟩⟩
              · rw [h49]
                unfold f_X8_seen_49 f_X6_add f_X6_add_16 f_X8_seen_67
                have e7 := ex.1
                simp (disch := omega) only [zl0, zl1, zl2, zl3, zl4, zl5, zl6, zl7, zl8, zl9, zl10, zl11, zl12, zl13, zl17, zl18, zl19, zl20, zl21, zl22, zl23, zl24, zl25, zl26, zl27, zl28, zl29, zl31, zl32, zl40, zl42, zl44, zl48, zl50, zl57, zl58, zl59, zl60, zl65, zl97, zl98, zl99, zl100, zl103, zl104, zl108, zl119, zl126, zl200, zl203, zl255, zl999, zl9999, zl720, zl232, z_add, z_le, z_lt, z_eq, z_clamp, z_in, z_m4, z_m4n, z_m1n, z_b0, z_b1, m_up_eq, m_up_ne, m_upd_eq, m_upd_ne, bd_s, op_s2, Bool.false_eq_true, eq_self, if_true, if_false, if_pos, if_neg, e7, hq]
              · unfold f_X9_seen
                have e7 := em.1
                rw [bd_some mc, if_neg (by decide), bd_some mi2, if_neg (by decide), bd_some mi3, if_neg (by decide)]
                simp (disch := omega) only [zl0, zl1, zl2, zl3, zl4, zl5, zl6, zl7, zl8, zl9, zl10, zl11, zl12, zl13, zl17, zl18, zl19, zl20, zl21, zl22, zl23, zl24, zl25, zl26, zl27, zl28, zl29, zl31, zl32, zl40, zl42, zl44, zl48, zl50, zl57, zl58, zl59, zl60, zl65, zl97, zl98, zl99, zl100, zl103, zl104, zl108, zl119, zl126, zl200, zl203, zl255, zl999, zl9999, zl720, zl232, z_add, z_le, z_lt, z_eq, z_clamp, z_in, z_m4, z_m4n, z_m1n, z_b0, z_b1, m_up_eq, m_up_ne, m_upd_eq, m_upd_ne, bd_s, op_s2, Bool.false_eq_true, eq_self, if_true, if_false, if_pos, if_neg, z_mul, e7]
              · obtain ⟨i1, i2, i3, i4, i5, i6, i7, i8, i9⟩ := hI
                refine ⟨i1, i2, i3, i4, i5, i6, ⟨by omega, fun j hj => ?_⟩, by omega, by omega⟩
                dsimp only
                by_cases e : j = sq
                · rw [if_pos e, if_pos e, if_pos e]; omega
                · rw [if_neg e, if_neg e, if_neg e]; exact i7.2 j (by omega)
              · simp (disch := omega) only [m_up_ne, m_up_eq]
                by_cases e : j = sq
                · subst e; rw [m_upd_eq, m_upd_eq, m_upd_eq, if_pos rfl, if_pos rfl, if_pos rfl]; exact ⟨rfl, rfl, rfl⟩
                · rw [m_upd_ne e, m_upd_ne e, m_upd_ne e, if_neg e, if_neg e, if_neg e]; exact ex.2 j (by omega)
              · rw [m_up_ne (by omega), m_up_eq]
                dsimp only
                by_cases e : j = sq
                · subst e; rw [m_upd_eq, if_pos rfl, if_pos rfl, if_pos rfl]
                · rw [m_upd_ne e, if_neg e, if_neg e, if_neg e]; exact em.2 j (by omega)
          · rw [decide_eq_false e5] at mi3
            refine Good.same hrel hk (r := -1) ?_ ?_
            · unfold f_X8_seen f_X8_seen_31
              rw [bd_some xc, if_neg (by decide), if_neg e2, if_neg e3, if_neg e4, if_neg e5]
            · unfold f_X9_seen f_X9_seen_27
              rw [bd_some mc, if_neg (by decide), bd_some mi2, if_neg (by decide), bd_some mi3, if_pos (by decide)]
  · rw [Bool.not_eq_true] at e1
    rw [e1] at xc mc
    refine Good.same hrel hk (r := -1) ?_ ?_
    · unfold f_X8_seen f_X8_seen_31
      rw [bd_some xc, if_pos (by decide)]
    · unfold f_X9_seen f_X9_seen_27
      rw [bd_some mc, if_pos (by decide)]
