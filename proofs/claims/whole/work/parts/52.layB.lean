/-! lay -/
theorem X_copyPlan (s : fm_M) : ∃ s', f_X4_copyFrom 6 3 s = some (0, s') ∧ (∀ c, c < 6 → s' 7 c = s 4 c ∧ s' 8 c = s 5 c) ∧ (s' 6 2 = s 3 2 ∧ s' 6 3 = s 3 3 ∧ s' 6 4 = s 3 4 ∧ s' 6 5 = s 3 5 ∧ s' 6 6 = s 3 6) ∧ ∀ c, c < 6 ∨ 8 < c → s' c = s c := by
  unfold f_X4_copyFrom
  refine ⟨_, rfl, fun c hc => ⟨?_, ?_⟩, ⟨?_, ?_, ?_, ?_, ?_⟩, fun c hc => ?_⟩
  all_goals simp (disch := omega) only [m_up_eq, m_up_ne, m_upd_eq, m_upd_ne, m_cp_ne, m_cp_eq, cpy0, Nat.reduceAdd]
theorem R_lay {k : Nat} {x m : fm_M} (h : Rel k x m) (hk : k < 1000) : Good k (f_X8_lay x) (f_X9_lay m) := by
  obtain ⟨p, σ, t, tn, H, hn, K, kn, sc, sn, sl, sq, ch, hI, hX, hM⟩ := h
  obtain ⟨x1, a1, a2, a3⟩ := X_readInto (pl := 3) (Or.inl rfl) hX.2.2.1 hI.2.2.2.1
  obtain ⟨m1, b1, b2, b3⟩ := M_readsAll hM.2.1 hI.2.2.2.1
  have hX1 : XS p σ t tn H hn K kn sc sn sl sq ch x1 := hX.fr (fun c c1 c2 c3 => a3 c (by omega))
  have hM1 : MS p σ t tn H hn K kn sc sn sl sq m1 := hM.bf b3
  obtain ⟨ok1, ok2⟩ := raF_ok (t := t) 201 d0F 0 DI_0 (by omega) hI.2.2.2.1.1
  rcases hr : (raF t tn 201 d0F 0).1 with _ | w
  · rw [hr] at a1 b1
    have rd := a2 hr
    have rm := b2 hr
    obtain ⟨d, hd⟩ : ∃ d, d = (raF t tn 201 d0F 0).2 := ⟨_, rfl⟩
    rw [← hd] at ok1 rd rm
    have h06 := ok1.2.1
    by_cases e0 : d 0 = 0
    · refine ⟨-2, x1, m1, ?_, ?_, p, σ, t, tn, H, hn, K, kn, sc, sn, sl, sq, ch, hI.up hk, hX1, hM1⟩
      · unfold f_X8_lay f_X8_lay_26
        rw [bd_some a1, if_pos (show fI none = -4 from rfl), rd.1, if_pos (by rw [e0]; rfl)]
      · unfold f_X9_lay f_X9_lay_18
        rw [bd_some b1, if_pos (show fI none = -4 from rfl), if_pos (by decide), show (0 : Int32).toNatClampNeg = 0 from rfl, rm 0 (by omega), if_pos (by rw [e0]; rfl)]
    · have hp : PI d := ⟨ok1.1, by omega, ok1.2.1, ok1.2.2.1, ok1.2.2.2.1, ok1.2.2.2.2.1, ok1.2.2.2.2.2.1, ok1.2.2.2.2.2.2.1, ok1.2.2.2.2.2.2.2.1, ok1.2.2.2.2.2.2.2.2.1, ok1.2.2.2.2.2.2.2.2.2.1, ok1.2.2.2.2.2.2.2.2.2.2⟩
      obtain ⟨x2, c1, c2, c3, c4⟩ := X_copyPlan x1
      obtain ⟨r2, r3, r4, r5, r6, rr⟩ := rd
      have e63 : x2 6 3 = nI (d 1) := by rw [c3.2.1]; exact r3
      obtain ⟨x3, d1, d2, d3, d4, d5, d6, d7, d8⟩ := X_startAgain (s := x2) (a := 9) (k := d 1)
      obtain ⟨x4, hx4⟩ : ∃ x4, x4 = fm_up (fm_up (fm_up x3 16 2 (0 : Int32)) 74 2 (0 : Int32)) 101 3 (0 : Int32) := ⟨_, rfl⟩
      have f4 : ∀ c, ¬ c = 16 → ¬ c = 74 → ¬ c = 101 → x4 c = x3 c := fun c q1 q2 q3 => by rw [hx4, m_up_ne q3, m_up_ne q2, m_up_ne q1]
      have f3 : ∀ c, c < 9 ∨ 15 < c → x3 c = x2 c := fun c hc => d7 c (by omega)
      have fx : ∀ c, (c < 6 ∨ 15 < c) → ¬ c = 16 → ¬ c = 74 → ¬ c = 101 → x4 c = x1 c := fun c hc q1 q2 q3 => by rw [f4 c q1 q2 q3, f3 c (by omega), c4 c (by omega)]
      obtain ⟨m2, g1, g2, g3, g4, g5, g6, g7, g8⟩ := M_lays m1
      obtain ⟨⟨h1, h1'⟩, h2, h3, ⟨h4, top, t1, t2, t3, -⟩, ⟨h5, top', t1', t2', t3', -⟩, h6, h7, h8, h9, h10⟩ := hX1
      have e62 : x4 6 2 = nI (d 0) := by rw [f4 6 (by omega) (by omega) (by omega), f3 6 (by omega), c3.1]; exact r2
      have hP : RP d x4 := by
        refine ⟨e62, ?_, ?_, ?_, fun c hc => ?_⟩
        · rw [f4 6 (by omega) (by omega) (by omega), f3 6 (by omega), c3.2.2.1]; exact r4
        · rw [f4 6 (by omega) (by omega) (by omega), f3 6 (by omega), c3.2.2.2.1]; exact r5
        · rw [f4 6 (by omega) (by omega) (by omega), f3 6 (by omega), c3.2.2.2.2]; exact r6
        · rw [f4 7 (by omega) (by omega) (by omega), f4 8 (by omega) (by omega) (by omega), f3 7 (by omega), f3 8 (by omega), (c2 c (by omega)).1, (c2 c (by omega)).2]
          exact rr c hc
      have hz : RH d zF x3 9 := RH_z hp d2 d3 d4 d5 d6
      have hch : x4 9 10 = nI (ch + 1) := by
        rw [f4 9 (by omega) (by omega) (by omega), d8, c4 9 (by omega), h7]; exact z_add ch 1
      have e98 : x4 98 = x1 98 := fx 98 (by omega) (by omega) (by omega) (by omega)
      have i8 := hI.2.2.2.2.2.2.2
      refine ⟨nI (d 0), x4, m2, ?_, ?_, d, zF, t, tn, H, 0, K, 0, sc, sn, sl, 0, ch + 1, ?_, ?_, ?_⟩
      · unfold f_X8_lay
        rw [bd_some a1, if_pos (show fI none = -4 from rfl), r2, if_neg (by rw [show (0 : Int32) = nI 0 from rfl, z_eq (by omega) (by omega)]; exact e0), bd_some c1, e63, bd_some d1]
        unfold f_X3_clear
        rw [bd_s, bd_s, ← hx4, e62]
      · unfold f_X9_lay
        rw [bd_some b1, if_pos (show fI none = -4 from rfl), if_pos (by decide), show (0 : Int32).toNatClampNeg = 0 from rfl, rm 0 (by omega), if_neg (by rw [show (0 : Int32) = nI 0 from rfl, z_eq (by omega) (by omega)]; exact e0), bd_some g1, if_pos (by decide), g3 0 (by omega), rm 0 (by omega)]
      · exact ⟨hp, HI_z d, Nat.zero_le 999, hI.2.2.2.1, fun j hj => by omega, fun j hj => by omega, ⟨by omega, fun j hj => by omega⟩, by omega, by omega⟩
      · refine ⟨⟨hP, by rw [f4 6 (by omega) (by omega) (by omega), f3 6 (by omega)]; exact e63⟩, hz.fr (fun c q1 q2 => f4 c (by omega) (by omega) (by omega)), h3.fr (fx 1 (by omega) (by omega) (by omega) (by omega)) (fx 2 (by omega) (by omega) (by omega) (by omega)), ⟨by omega, top, t1, ?_, ?_, fun j hj => by omega⟩, ⟨by omega, top', t1', ?_, ?_, fun j hj => by omega⟩, ⟨?_, fun j hj => by omega⟩, hch, ?_, ?_, ?_⟩
        · rw [hx4, m_up_ne (by omega), m_up_ne (by omega), m_up_eq, m_upd_ne (by omega), f3 16 (by omega), c4 16 (by omega)]; exact t2
        · rw [hx4, m_up_ne (by omega), m_up_ne (by omega), m_up_eq, m_upd_eq]; rfl
        · rw [hx4, m_up_ne (by omega), m_up_eq, m_upd_ne (by omega), m_up_ne (by omega), f3 74 (by omega), c4 74 (by omega)]; exact t2'
        · rw [hx4, m_up_ne (by omega), m_up_eq, m_upd_eq]; rfl
        · rw [hx4, m_up_eq, m_upd_eq]; rfl
        · intro q
          rw [e98, hch] at q
          exact absurd q (ch_ne h9 (by omega) (by omega))
        · rw [e98]
          rcases h9 with q | ⟨ta, q, ql⟩
          · exact Or.inl q
          · exact Or.inr ⟨ta, q, by omega⟩
        · intro j hj
          rw [fx 1000 (by omega) (by omega) (by omega) (by omega)]; exact h10 j hj
      · refine ⟨⟨fun j hj => by rw [g3 j hj]; exact rm j hj, fun j hj => g4 j hj⟩, ?_, ⟨by omega, g5, fun j hj => by omega⟩, ⟨by omega, g6, fun j hj => by omega⟩, ⟨g7, fun j hj => by omega⟩⟩
        unfold TMc
        rw [g8, g2 1 (by omega) (by omega) (by omega)]
        exact hM1.2.1
  · rw [hr] at a1 b1
    have hw := ok2 w hr
    have n4 : ¬ fI (some w) = -4 := by
      intro q
      have z := congrArg Int32.toInt (show nI w = -4 from q)
      rw [nI_toInt (by omega), show (-4 : Int32).toInt = -4 from by decide] at z
      omega
    refine ⟨-2, x1, m1, ?_, ?_, p, σ, t, tn, H, hn, K, kn, sc, sn, sl, sq, ch, hI.up hk, hX1, hM1⟩
    · unfold f_X8_lay f_X8_lay_26
      rw [bd_some a1, if_neg n4]
    · unfold f_X9_lay f_X9_lay_18
      rw [bd_some b1, if_neg n4]
