/-! tried: last, morning -/
def okL : Option (Nat × Nat) → Bool
  | none => false
  | some (_, b) => decide (nI b = 0)
theorem X_makeRow {p : Nat → Nat} {s : fm_M} (hp : PI p) (hP : RP p s) {c : Nat} (hc : c < p 0) : ∃ s', f_X5_makeRowWithLast (nI c) s = some (0, s') ∧ RX p (roF (p 0) c) s' 99 ∧ ∀ d, ¬ d = 99 → s' d = s d := by
  have hp0 := hp.2.2.1
  have e62 := hP.1
  obtain ⟨s1, h1, h2, -, h4⟩ := it_fill (body := fun (yy : fm_M × Int32) => f_X5_makeRowWithLast_2 (nI c) yy.1 yy.2) 6 99 0 (fun k => nI (if c ≤ k then k + 1 else k)) s (by omega) (fun k m' hk q1 q2 => by
    dsimp only [f_X5_makeRowWithLast_2, f_X5_makeRowWithLast_25]
    by_cases e : c ≤ k
    · simp (disch := omega) only [zl0, zl1, zl2, zl3, zl4, zl5, zl6, zl7, zl8, zl9, zl10, zl11, zl12, zl13, zl17, zl18, zl19, zl20, zl21, zl22, zl23, zl24, zl25, zl26, zl27, zl28, zl29, zl31, zl32, zl40, zl42, zl44, zl48, zl50, zl57, zl58, zl59, zl60, zl65, zl97, zl98, zl99, zl100, zl103, zl104, zl108, zl119, zl126, zl200, zl203, zl255, zl999, zl9999, zl720, zl232, z_add, z_le, z_lt, z_eq, z_clamp, z_in, z_m4, z_m4n, z_m1n, z_b0, z_b1, m_up_eq, m_up_ne, m_upd_eq, m_upd_ne, bd_s, op_s2, Bool.false_eq_true, eq_self, if_true, if_false, if_pos, if_neg, Nat.zero_add]
    · simp (disch := omega) only [zl0, zl1, zl2, zl3, zl4, zl5, zl6, zl7, zl8, zl9, zl10, zl11, zl12, zl13, zl17, zl18, zl19, zl20, zl21, zl22, zl23, zl24, zl25, zl26, zl27, zl28, zl29, zl31, zl32, zl40, zl42, zl44, zl48, zl50, zl57, zl58, zl59, zl60, zl65, zl97, zl98, zl99, zl100, zl103, zl104, zl108, zl119, zl126, zl200, zl203, zl255, zl999, zl9999, zl720, zl232, z_add, z_le, z_lt, z_eq, z_clamp, z_in, z_m4, z_m4n, z_m1n, z_b0, z_b1, m_up_eq, m_up_ne, m_upd_eq, m_upd_ne, bd_s, op_s2, Bool.false_eq_true, eq_self, if_true, if_false, if_pos, if_neg, Nat.zero_add]) (fun m' q1 => by
    dsimp only [f_X5_makeRowWithLast_2]
    simp (disch := omega) only [zl0, zl1, zl2, zl3, zl4, zl5, zl6, zl7, zl8, zl9, zl10, zl11, zl12, zl13, zl17, zl18, zl19, zl20, zl21, zl22, zl23, zl24, zl25, zl26, zl27, zl28, zl29, zl31, zl32, zl40, zl42, zl44, zl48, zl50, zl57, zl58, zl59, zl60, zl65, zl97, zl98, zl99, zl100, zl103, zl104, zl108, zl119, zl126, zl200, zl203, zl255, zl999, zl9999, zl720, zl232, z_add, z_le, z_lt, z_eq, z_clamp, z_in, z_m4, z_m4n, z_m1n, z_b0, z_b1, m_up_eq, m_up_ne, m_upd_eq, m_upd_ne, bd_s, op_s2, Bool.false_eq_true, eq_self, if_true, if_false, if_pos, if_neg])
  have e62' : s1 6 2 = nI (p 0) := by rw [h2 6 (by omega)]; exact e62
  refine ⟨fm_up s1 99 (p 0 - 1) (nI c), ?_, ⟨fun k hk => ?_, fun k k1 k2 => ?_⟩, fun d hd => by rw [m_up_ne hd]; exact h2 d hd⟩
  · unfold f_X5_makeRowWithLast f_X5_makeRowWithLast_58
    rw [op_some h1]
    dsimp only
    simp (disch := omega) only [zl0, zl1, zl2, zl3, zl4, zl5, zl6, zl7, zl8, zl9, zl10, zl11, zl12, zl13, zl17, zl18, zl19, zl20, zl21, zl22, zl23, zl24, zl25, zl26, zl27, zl28, zl29, zl31, zl32, zl40, zl42, zl44, zl48, zl50, zl57, zl58, zl59, zl60, zl65, zl97, zl98, zl99, zl100, zl103, zl104, zl108, zl119, zl126, zl200, zl203, zl255, zl999, zl9999, zl720, zl232, z_add, z_le, z_lt, z_eq, z_clamp, z_in, z_m4, z_m4n, z_m1n, z_b0, z_b1, m_up_eq, m_up_ne, m_upd_eq, m_upd_ne, bd_s, op_s2, Bool.false_eq_true, eq_self, if_true, if_false, if_pos, if_neg, e62', z_sub]
  · rw [m_up_eq]
    unfold roF
    by_cases e : k = p 0 - 1
    · rw [e, m_upd_eq, if_neg (by omega)]
    · rw [m_upd_ne e, if_pos (by omega)]
      have := h4 k (by omega)
      rw [Nat.zero_add] at this
      rw [this]
      by_cases e2 : c ≤ k
      · rw [if_pos e2, if_neg (by omega)]
      · rw [if_neg e2, if_pos (by omega)]
  · have := h4 k k2
    rw [Nat.zero_add, if_pos (by omega)] at this
    rw [m_up_eq, m_upd_ne (by omega), this, ← Bool.not_eq_true, z_in (by omega)]
    omega
theorem R_last {k : Nat} {x m : fm_M} (h : Rel k x m) (hk : k < 1000) : Good k (f_X8_last x) (f_X9_last m) := by
  have hrel := h
  obtain ⟨p, σ, t, tn, H, hn, K, kn, sc, sn, sl, sq, ch, hI, hX, hM⟩ := h
  have hp := hI.1
  have hH := hI.2.1
  have hp0 := hp.2.2.1
  obtain ⟨y, g1, x', g2, g3⟩ := it_go (body := fun (yy : fm_M × Int32 × Int32) => f_X5_tryEachLast_4 9 yy.1 yy.2.1 yy.2.2) (fun i t => ∃ x', t = (x', kiF (fun c => okL (goR p (roF (p 0) c) σ)) i, nI i) ∧ ∀ d, (d < 90 ∨ 97 < d) → ¬ d = 99 → x' d = x d) (fun y => ∃ x', y = (x', kiF (fun c => okL (goR p (roF (p 0) c) σ)) (p 0), nI (p 0)) ∧ ∀ d, (d < 90 ∨ 97 < d) → ¬ d = 99 → x' d = x d) (p 0) (x, 0, 0) (by omega) ⟨x, rfl, fun _ _ _ => rfl⟩ (by
    rintro i s hi ⟨x1, rfl, q1⟩
    left
    have hP1 : RP p x1 := hX.1.1.fr (q1 6 (by omega) (by omega)) (q1 7 (by omega) (by omega)) (q1 8 (by omega) (by omega))
    obtain ⟨x2, a1, a2, a3⟩ := X_makeRow hp hP1 hi
    have hR2 : RH p σ x2 9 := hX.2.1.fr (fun c c1 c2 => by rw [a3 c (by omega), q1 c (by omega) (by omega)])
    obtain ⟨x3, b1, b2, b3⟩ := X_startFrom hp hR2 hH
    have hP3 : RP p x3 := (hP1.fr (a3 6 (by omega)) (a3 7 (by omega)) (a3 8 (by omega))).fc b3
    obtain ⟨v, x4, c1, c2, c3, c4, c5⟩ := X_trial hp (roF_ok (Nat.le_of_lt hi)) (r := 99) (by omega) hP3 b2 hH (a2.fh (b3 99 (by omega))) hI.2.2.1
    refine ⟨(x4, kiF (fun c => okL (goR p (roF (p 0) c) σ)) (i + 1), nI (i + 1)), ?_, x4, rfl, fun d d1 d2 => by rw [c5 d d1, b3 d d1, a3 d d2, q1 d d1 d2]⟩
    have e62 := hP1.1
    dsimp only [f_X5_tryEachLast_4, f_X5_tryEachLast_74]
    rw [e62, if_neg (by rw [z_le (by omega) (by omega)]; omega), bd_some a1, bd_some b1, bd_some c1, bd_some c2, c3, c4, show (1 : Int32) = nI 1 from rfl, z_add]
    rcases hg : goR p (roF (p 0) i) σ with _ | ⟨g, b⟩
    · rw [if_pos (by rfl), kiF, hg]; rfl
    · rw [if_neg (gI_no hp hg), kiF, hg]
      by_cases e : nI b = 0
      · rw [if_pos (show hI' (some (g, b)) = 0 from e), if_pos (by unfold okL; exact decide_eq_true e)]; rfl
      · rw [if_neg (show ¬ hI' (some (g, b)) = 0 from e), if_neg (show ¬ okL (some (g, b)) = true from fun q => e (of_decide_eq_true q))]) (by
    rintro s ⟨x1, rfl, q1⟩
    have e62 : x1 6 2 = nI (p 0) := by rw [q1 6 (by omega) (by omega)]; exact hX.1.1.1
    refine ⟨_, ?_, x1, rfl, q1⟩
    dsimp only [f_X5_tryEachLast_4]
    simp (disch := omega) only [zl0, zl1, zl2, zl3, zl4, zl5, zl6, zl7, zl8, zl9, zl10, zl11, zl12, zl13, zl17, zl18, zl19, zl20, zl21, zl22, zl23, zl24, zl25, zl26, zl27, zl28, zl29, zl31, zl32, zl40, zl42, zl44, zl48, zl50, zl57, zl58, zl59, zl60, zl65, zl97, zl98, zl99, zl100, zl103, zl104, zl108, zl119, zl126, zl200, zl203, zl255, zl999, zl9999, zl720, zl232, z_add, z_le, z_lt, z_eq, z_clamp, z_in, z_m4, z_m4n, z_m1n, z_b0, z_b1, m_up_eq, m_up_ne, m_upd_eq, m_upd_ne, bd_s, op_s2, Bool.false_eq_true, eq_self, if_true, if_false, if_pos, if_neg, e62])
  obtain ⟨m1, d1, d2, d3⟩ := M_holds m
  have h81 : ∀ j, j < 29 → m1 8 j = nI (σ j) := fun j hj => by rw [d3 j hj]; exact hM.1.2 j hj
  obtain ⟨y', g1', m', g2', g3', g4', g5'⟩ := it_go (body := fun (yy : fm_M × Int32 × Int32) => f_X9_last_8 yy.1 yy.2.1 yy.2.2) (fun i t => ∃ m', t = (m', kiF (fun c => okL (goR p (roF (p 0) c) σ)) i, nI i) ∧ (∀ j, j < 29 → m' 4 j = nI (σ j)) ∧ (∀ d, ¬ d = 0 → ¬ d = 4 → ¬ d = 9 → m' d = m1 d) ∧ ∀ k, ¬ k = 14 → m' 0 k = m1 0 k) (fun y => ∃ m', y = (m', kiF (fun c => okL (goR p (roF (p 0) c) σ)) (p 0), nI (p 0)) ∧ (∀ j, j < 29 → m' 4 j = nI (σ j)) ∧ (∀ d, ¬ d = 0 → ¬ d = 4 → ¬ d = 9 → m' d = m1 d) ∧ ∀ k, ¬ k = 14 → m' 0 k = m1 0 k) (p 0) (m1, 0, 0) (by omega) ⟨m1, rfl, fun j hj => by rw [d2 4 (by omega)]; exact hM.1.2 j hj, fun _ _ _ _ => rfl, fun _ _ => rfl⟩ (by
    rintro i s hi ⟨m2, rfl, q1, q2, q3⟩
    left
    have hR2 : RM p σ m2 := ⟨fun j hj => by rw [q2 2 (by omega) (by omega) (by omega), d2 2 (by omega)]; exact hM.1.1 j hj, q1⟩
    have e0 := hR2.1 0 (by omega)
    obtain ⟨m3, e1, e2, e3, e4, e5⟩ := M_goesBut (τ := σ) hp hR2 hH (fun j hj => by rw [q2 8 (by omega) (by omega) (by omega)]; exact h81 j hj) (nI i) i (Nat.le_of_lt hi) (fun j hj => by rw [z_eq (by omega) (by omega)]) ⟨fun q => by
      have z := congrArg Int32.toInt q
      rw [nI_toInt (by omega), show (-4 : Int32).toInt = -4 from by decide] at z
      omega, fun q => by omega⟩ (fun _ => rfl)
    refine ⟨(m3, kiF (fun c => okL (goR p (roF (p 0) c) σ)) (i + 1), nI (i + 1)), ?_, m3, rfl, e3, fun d d0 d4 d9 => by rw [e4 d d0 d4 d9, q2 d d0 d4 d9], fun k hk => by rw [e5 k hk, q3 k hk]⟩
    dsimp only [f_X9_last_8, f_X9_last_42, f_X9_last_43]
    rw [show (0 : Int32).toNatClampNeg = 0 from rfl, if_pos (by decide), e0, if_neg (by rw [z_le (by omega) (by omega)]; omega), bd_some e1, show (1 : Int32) = nI 1 from rfl, z_add]
    rcases hg : goR p (roF (p 0) i) σ with _ | ⟨g, b⟩
    · rw [if_pos (by rfl), kiF, hg, if_neg (by decide), Int32.or_zero]
    · rw [if_neg (gI_no hp hg), kiF, hg, e2 g b hg]
      by_cases e : nI b = 0
      · rw [if_pos e, if_pos (by unfold okL; exact decide_eq_true e)]; rfl
      · rw [if_neg e, if_neg (show ¬ okL (some (g, b)) = true from fun q => e (of_decide_eq_true q)), Int32.or_zero]) (by
    rintro s ⟨m2, rfl, q1, q2, q3⟩
    have e0 : m2 2 0 = nI (p 0) := by rw [q2 2 (by omega) (by omega) (by omega), d2 2 (by omega)]; exact hM.1.1 0 (by omega)
    refine ⟨_, ?_, m2, rfl, q1, q2, q3⟩
    dsimp only [f_X9_last_8]
    simp (disch := omega) only [zl0, zl1, zl2, zl3, zl4, zl5, zl6, zl7, zl8, zl9, zl10, zl11, zl12, zl13, zl17, zl18, zl19, zl20, zl21, zl22, zl23, zl24, zl25, zl26, zl27, zl28, zl29, zl31, zl32, zl40, zl42, zl44, zl48, zl50, zl57, zl58, zl59, zl60, zl65, zl97, zl98, zl99, zl100, zl103, zl104, zl108, zl119, zl126, zl200, zl203, zl255, zl999, zl9999, zl720, zl232, z_add, z_le, z_lt, z_eq, z_clamp, z_in, z_m4, z_m4n, z_m1n, z_b0, z_b1, m_up_eq, m_up_ne, m_upd_eq, m_upd_ne, bd_s, op_s2, Bool.false_eq_true, eq_self, if_true, if_false, if_pos, if_neg, e0])
  subst g2 g2'
  have hX' : XS p σ t tn H hn K kn sc sn sl sq ch x' := hX.fr (fun c c1 c2 c3 => g3 c (by omega) c3)
  have hM' : MS p σ t tn H hn K kn sc sn sl sq m' := hM.fr (fun c hc => by rw [g4' c (by omega) (by omega) (by omega), d2 c (by omega)]) (fun j hj => by rw [g3' j hj]; exact (hM.1.2 j hj).symm) (by rw [g5' 1 (by omega), g5' 6 (by omega), g5' 8 (by omega), g5' 10 (by omega), d2 0 (by omega)]; exact ⟨rfl, rfl, rfl, rfl⟩)
  refine ⟨kiF (fun c => okL (goR p (roF (p 0) c) σ)) (p 0), x', m', ?_, ?_, p, σ, t, tn, H, hn, K, kn, sc, sn, sl, sq, ch, hI.up hk, hX', hM'⟩
  · unfold f_X8_last f_X5_tryEachLast
    rw [op_some g1]
    dsimp only
    rw [bd_s]
  · unfold f_X9_last
    rw [bd_some d1, op_some g1']
-- the draws
abbrev nL (a : Nat) : Int64 := Int64.ofNat a
theorem L_div {a d : Nat} (ha : a < 2 ^ 62) (hd : d < 2 ^ 62) : nL a / nL d = nL (a / d) := by
  apply Int64.toInt_inj.mp
  have h1 : a / d ≤ a := Nat.div_le_self a d
  rw [Int64.toInt_div, Int64.toInt_ofNat_of_lt (by omega), Int64.toInt_ofNat_of_lt (by omega), Int64.toInt_ofNat_of_lt (by omega)]
  rw [← Int.ofNat_tdiv]
  generalize a / d = q at h1 ⊢
  exact Int.bmod_eq_of_le (by omega) (by omega)
theorem L_rem {a d : Nat} (ha : a < 2 ^ 62) (hd : d < 2 ^ 62) : nL a - nL a / nL d * nL d = nL (a % d) := by
  rw [L_div ha hd, ← Int64.ofNat_mul, ← Int64.ofNat_sub _ _ (Nat.div_mul_le_self a d)]
  exact congrArg nL (by have := Nat.div_add_mod' a d; omega)
theorem L_of {a : Nat} (h : a < 2147483648) : (nI a).toInt64 = nL a := by
  apply Int64.toInt_inj.mp
  rw [Int32.toInt_toInt64, nI_toInt h, Int64.toInt_ofNat_of_lt (by omega)]
theorem L_32 {a : Nat} (h : a < 2147483648) : (nL a).toInt32 = nI a := by
  apply Int32.toInt_inj.mp
  rw [Int64.toInt_toInt32, Int64.toInt_ofNat_of_lt (by omega), nI_toInt h]
  exact Int.bmod_eq_of_le (by omega) (by omega)
def drE (z i : Nat) : Nat := 7919 * z + 6151 * i + 1
def drN (z i : Nat) : Nat := drE z i * drE z i % 65521 / 2
theorem drE_b {z i : Nat} (hz : z < 10000) (hi : i < 100) : drE z i * drE z i < 2 ^ 62 := by
  have h : drE z i ≤ 100000000 := by unfold drE; omega
  have := Nat.mul_le_mul h h
  omega
theorem drN_b (z i : Nat) : drN z i < 40000 := by unfold drN; omega
theorem L_e {z i : Nat} (hz : z < 10000) (hi : i < 100) : (((7919 : Int64) * (nI z).toInt64) + ((6151 : Int64) * (nI i).toInt64)) + (1 : Int64) = nL (drE z i) := by
  rw [L_of (by omega), L_of (by omega), show (7919 : Int64) = nL 7919 from rfl, show (6151 : Int64) = nL 6151 from rfl, show (1 : Int64) = nL 1 from rfl, ← Int64.ofNat_mul, ← Int64.ofNat_mul, ← Int64.ofNat_add, ← Int64.ofNat_add]
  rfl
theorem X_draw {z i : Nat} (hz : z < 10000) (hi : i < 100) (s : fm_M) : f_X1_draw (nI z) (nI i) s = some (nI (drN z i), s) := by
  have hb := drE_b hz hi
  unfold f_X1_draw
  rw [L_e hz hi, ← Int64.ofNat_mul, show (65521 : Int64) = nL 65521 from rfl, L_rem hb (by omega), show (2 : Int64) = nL 2 from rfl, L_div (by omega) (by omega), L_32 (by omega)]
  rfl
theorem M_draw {z i : Nat} (hz : z < 10000) (hi : i < 100) : (((((((7919 : Int64) * (nI z).toInt64) + ((6151 : Int64) * (nI i).toInt64)) + (1 : Int64)) * ((((7919 : Int64) * (nI z).toInt64) + ((6151 : Int64) * (nI i).toInt64)) + (1 : Int64))) - (((((7919 : Int64) * (nI z).toInt64) + ((6151 : Int64) * (nI i).toInt64)) + (1 : Int64)) * ((((7919 : Int64) * (nI z).toInt64) + ((6151 : Int64) * (nI i).toInt64)) + (1 : Int64))) / (65521 : Int64) * (65521 : Int64)).toInt32 / (2 : Int32)) = nI (drN z i) := by
  have hb := drE_b hz hi
  rw [L_e hz hi, ← Int64.ofNat_mul, show (65521 : Int64) = nL 65521 from rfl, L_rem hb (by omega), L_32 (by omega), show (2 : Int32) = nI 2 from rfl, z_div (by omega) (by omega) (by omega)]
  rfl
def t1F (p σ : Nat → Nat) (d : Nat) : Nat → Nat := if σ (d % p 0) = 0 ∧ lowF σ (p 1) < p 1 then drF p σ (lowF σ (p 1)) (d % p 0) else σ
def t2F (p σ : Nat → Nat) (d : Nat) : Nat → Nat := if d / 8 % 3 = 0 ∧ 0 < highF σ (p 1) ∧ 1 < p 1 - hc σ 18 3 (p 1) ∧ 0 < hc σ 0 2 (p 0) then opnF p σ (highF σ (p 1) - 1) else σ
theorem t1_ok {p σ : Nat → Nat} (hp : PI p) (hH : HI p σ) (d : Nat) : HI p (t1F p σ d) ∧ t1F p σ d 28 = σ 28 := by
  have hp0 := hp.2.2.1
  have hp00 := hp.2.1
  have hp1 := hp.2.2.2.2.1
  have hm : d % p 0 < p 0 := Nat.mod_lt _ (by omega)
  obtain ⟨l1, l2, l3⟩ := lowF_spec σ (p 1)
  unfold t1F
  split
  · rename_i h
    exact ⟨HI_dr hp hH h.2 (l2 h.2) hm h.1, drF_28 (by omega) (by omega)⟩
  · exact ⟨hH, rfl⟩
theorem t2_ok {p σ : Nat → Nat} (hp : PI p) (hH : HI p σ) (d : Nat) : HI p (t2F p σ d) ∧ t2F p σ d 28 = σ 28 := by
  have hp0 := hp.2.2.1
  have hp1 := hp.2.2.2.2.1
  obtain ⟨l1, l2, l3⟩ := highF_spec σ (p 1)
  unfold t2F
  split
  · rename_i h
    exact ⟨HI_opn hp hH (by omega), opnF_28 hp0 (by omega)⟩
  · exact ⟨hH, rfl⟩
def tuF (p σ : Nat → Nat) (d : Nat) : Nat → Nat := paF p (t2F p (t1F p σ d) d)
def tuB (p σ : Nat → Nat) (d : Nat) : Nat := paB p (t2F p (t1F p σ d) d)
theorem tu_ok {p σ : Nat → Nat} (hp : PI p) (hH : HI p σ) (h28 : σ 28 < 2000) (d : Nat) : HI p (tuF p σ d) ∧ tuF p σ d 28 = σ 28 + 1 := by
  obtain ⟨a1, a2⟩ := t1_ok hp hH d
  obtain ⟨b1, b2⟩ := t2_ok hp a1 d
  unfold tuF
  exact ⟨HI_pa hp b1 (by omega), by rw [paF_28, b2, a2]⟩
theorem n4_nI {a : Nat} (h : a < 1000) : ¬ nI a = -4 := by
  intro q
  have z := congrArg Int32.toInt q
  rw [nI_toInt (by omega), show (-4 : Int32).toInt = -4 from by decide] at z
  omega
theorem in_m4 (n : Nat) : fm_in (-4) n = false := by rw [← Bool.not_eq_true, z_neg_in (by decide)]; exact fun q => q
theorem X_openNo {p σ : Nat → Nat} {s : fm_M} {a : Nat} (hp : PI p) (hP : RP p s) (hR : RH p σ s a) (hH : HI p σ) {v1 : Int32} (h : ((fm_in v1 (p 1) && decide (σ (18 + v1.toNatClampNeg) = 0)) && decide (0 < hc σ 0 2 (p 0))) = false) : f_X2_openDoor a v1 s = some (-2, s) := by
  have h1 := X_canOpen hp hP hR hH v1
  rw [h] at h1
  unfold f_X2_openDoor
  rw [bd_some h1, if_pos (by decide)]
theorem X_turn54 {p σ : Nat → Nat} {s : fm_M} (hp : PI p) (hP : RP p s) (hR : RH p σ s 91) (hH : HI p σ) (v1 v2 : Int32) (i d : Nat) (hd : d < 40000) : ∃ s', f_X1_goByDraws_54 v1 v2 (nI i) (nI d) s = some (.inl (s', nI (i + 1))) ∧ RH p (paF p (t2F p σ d)) s' 91 ∧ FC s s' ∧ s' 90 3 = s 90 3 + nI (paB p (t2F p σ d)) := by
  have hp1 := hp.2.2.2.2.1
  have fin : ∀ (τ : Nat → Nat) (s1 : fm_M), RH p τ s1 91 → HI p τ → FH 91 s s1 → ∃ s', f_X1_goByDraws_89 v1 v2 (nI i) s1 = some (.inl (s', nI (i + 1))) ∧ RH p (paF p τ) s' 91 ∧ FC s s' ∧ s' 90 3 = s 90 3 + nI (paB p τ) := by
    intro τ s1 h1 h2 h3
    obtain ⟨s2, g1, g2, g3, -⟩ := X_goMinute hp (by omega) (hP.fc h3.c) h1 h2
    refine ⟨fm_up s2 90 3 (s1 90 3 + nI (paB p τ)), ?_, g2.up90 _ _, (h3.c.tr g3.c).tr (FC.up _ _ _), ?_⟩
    · unfold f_X1_goByDraws_89
      rw [bd_some g1, show (1 : Int32) = nI 1 from rfl, z_add]
    · rw [m_up_eq, m_upd_eq, h3 90 (by omega)]
  have xo := X_oneWomanLeft hp hR hH
  have xh := X_highestFree hp hR hH
  have e8 : nI d / (8 : Int32) - nI d / (8 : Int32) / (3 : Int32) * (3 : Int32) = nI (d / 8 % 3) := by
    rw [show (8 : Int32) = nI 8 from rfl, show (3 : Int32) = nI 3 from rfl, z_div (by omega) (by omega) (by omega), z_rem (by omega) (by omega) (by omega)]
  obtain ⟨l1, l2, l3⟩ := highF_spec σ (p 1)
  unfold f_X1_goByDraws_54
  rw [e8]
  by_cases e1 : d / 8 % 3 = 0
  · rw [if_pos (by rw [e1]; rfl)]
    by_cases e2 : p 1 - hc σ 18 3 (p 1) = 1
    · rw [decide_eq_true e2] at xo
      rw [bd_some xo, if_neg (by decide)]
      rw [show t2F p σ d = σ by unfold t2F; rw [if_neg (by omega)]]
      exact fin σ s hR hH (FH.rf 91 s)
    · rw [decide_eq_false e2] at xo
      rw [bd_some xo, if_pos (by decide), bd_some xh]
      by_cases e3 : 0 < highF σ (p 1)
      · have eh : enH σ (p 1) = nI (highF σ (p 1) - 1) := by unfold enH; rw [if_pos e3]
        have hw : highF σ (p 1) - 1 < p 1 := by omega
        have hf := l2 e3
        have h13 : 1 < p 1 - hc σ 18 3 (p 1) := by
          have a1 := hc_two (σ := σ) (fr := 18) (a := 0) (b := 3) (by omega) (p 1)
          have a2 := (high_hc (σ := σ) (p 1)).mp e3
          omega
        rw [eh]
        by_cases e4 : 0 < hc σ 0 2 (p 0)
        · obtain ⟨s1, g1, g2, g3, -⟩ := X_openDoor hp (by omega) hP hR hH hw hf e4
          rw [bd_some g1, show t2F p σ d = opnF p σ (highF σ (p 1) - 1) by unfold t2F; rw [if_pos ⟨e1, e3, h13, e4⟩]]
          exact fin _ s1 g2 (HI_opn hp hH hw) g3
        · have hno := X_openNo (v1 := nI (highF σ (p 1) - 1)) hp hP hR hH (by rw [decide_eq_false e4, Bool.and_false])
          rw [bd_some hno, show t2F p σ d = σ by unfold t2F; rw [if_neg (fun q => e4 q.2.2.2)]]
          exact fin σ s hR hH (FH.rf 91 s)
      · have eh : enH σ (p 1) = -4 := by unfold enH; rw [if_neg e3]
        rw [eh]
        have hno := X_openNo (v1 := -4) hp hP hR hH (by rw [in_m4, Bool.false_and, Bool.false_and])
        rw [bd_some hno, show t2F p σ d = σ by unfold t2F; rw [if_neg (fun q => e3 q.2.1)]]
        exact fin σ s hR hH (FH.rf 91 s)
  · rw [if_neg (by rw [show (0 : Int32) = nI 0 from rfl, z_eq (by omega) (by omega)]; exact e1)]
    rw [show t2F p σ d = σ by unfold t2F; rw [if_neg (fun q => e1 q.1)]]
    exact fin σ s hR hH (FH.rf 91 s)
theorem X_turn {p σ : Nat → Nat} {s : fm_M} (hp : PI p) (hP : RP p s) (hR : RH p σ s 91) (hH : HI p σ) (z n i : Nat) (hz : z < 10000) (hi : i < n) (hn : n ≤ 60) : ∃ s', f_X1_goByDraws_7 (nI z) (nI n) s (nI i) = some (.inl (s', nI (i + 1))) ∧ RH p (tuF p σ (drN z i)) s' 91 ∧ FC s s' ∧ s' 90 3 = s 90 3 + nI (tuB p σ (drN z i)) := by
  have hp0 := hp.2.2.1
  have hp00 := hp.2.1
  have hp1 := hp.2.2.2.2.1
  have hd := drN_b z i
  have hm : drN z i % p 0 < p 0 := Nat.mod_lt _ (by omega)
  have e62 := hP.1
  have xl := X_lowestFree hp hR hH
  obtain ⟨l1, l2, l3⟩ := lowF_spec σ (p 1)
  have er : nI (drN z i) - nI (drN z i) / nI (p 0) * nI (p 0) = nI (drN z i % p 0) := z_rem (by omega) (by omega) (by omega)
  have fin : ∀ (r : Int32) (τ : Nat → Nat) (s1 : fm_M), f_X2_dress 91 (enL σ (p 1)) (nI (drN z i % p 0)) s = some (r, s1) → t1F p σ (drN z i) = τ → RH p τ s1 91 → HI p τ → FH 91 s s1 → ∃ s', f_X1_goByDraws_7 (nI z) (nI n) s (nI i) = some (.inl (s', nI (i + 1))) ∧ RH p (tuF p σ (drN z i)) s' 91 ∧ FC s s' ∧ s' 90 3 = s 90 3 + nI (tuB p σ (drN z i)) := by
    intro r τ s1 h0 ht h1 h2 h3
    obtain ⟨s', g1, g2, g3, g4⟩ := X_turn54 hp (hP.fc h3.c) h1 h2 (nI z) (nI n) i (drN z i) hd
    refine ⟨s', ?_, by unfold tuF; rw [ht]; exact g2, h3.c.tr g3, by unfold tuB; rw [ht, g4, h3 90 (by omega)]⟩
    unfold f_X1_goByDraws_7
    rw [if_neg (by rw [z_le (by omega) (by omega)]; omega), bd_some (X_draw hz (by omega) s), e62, if_neg (by rw [show (0 : Int32) = nI 0 from rfl, z_le (by omega) (by omega)]; omega), bd_some xl, e62, if_neg (by rw [show (0 : Int32) = nI 0 from rfl, z_eq (by omega) (by omega)]; omega), er, bd_some h0, g1]
  by_cases e1 : lowF σ (p 1) < p 1
  · have el : enL σ (p 1) = nI (lowF σ (p 1)) := by unfold enL; rw [if_pos e1]
    by_cases e2 : σ (drN z i % p 0) = 0
    · obtain ⟨s1, g1, g2, g3, -⟩ := X_dress hp (by omega) hP hR hH e1 (l2 e1) hm e2
      exact fin _ (drF p σ (lowF σ (p 1)) (drN z i % p 0)) s1 (by rw [el]; exact g1) (by unfold t1F; rw [if_pos ⟨e2, e1⟩]) g2 (HI_dr hp hH e1 (l2 e1) hm e2) g3
    · have hno := X_dressNo (v1 := nI (lowF σ (p 1))) (v2 := nI (drN z i % p 0)) hp hP hR hH (by rw [z_clamp (by omega : drN z i % p 0 < 2147483648), decide_eq_false e2, Bool.and_false, Bool.and_false])
      exact fin _ σ s (by rw [el]; exact hno) (by unfold t1F; rw [if_neg (fun q => e2 q.1)]) hR hH (FH.rf 91 s)
  · have el : enL σ (p 1) = -4 := by unfold enL; rw [if_neg e1]
    have hno := X_dressNo (v1 := -4) (v2 := nI (drN z i % p 0)) hp hP hR hH (by rw [in_m4, Bool.false_and, Bool.false_and])
    exact fin _ σ s (by rw [el]; exact hno) (by unfold t1F; rw [if_neg (fun q => e1 q.2)]) hR hH (FH.rf 91 s)
theorem M_turn36 {p σ : Nat → Nat} {m : fm_M} (hp : PI p) (hR : RM p σ m) (hH : HI p σ) (d : Nat) (hd : d < 40000) : ∃ m', f_X9_turn_36 (nI d) m = some (nI (paB p (t2F p σ d)), m') ∧ RM p (paF p (t2F p σ d)) m' ∧ FM m m' := by
  have hp0 := hp.2.2.1
  have hp1 := hp.2.2.2.2.1
  have fin : ∀ (τ : Nat → Nat) (m1 : fm_M), RM p τ m1 → HI p τ → FM m m1 → ∃ m', f_X9_turn_79 m1 = some (nI (paB p τ), m') ∧ RM p (paF p τ) m' ∧ FM m m' := by
    intro τ m1 h1 h2 h3
    obtain ⟨m2, g1, g2, g3⟩ := M_passes hp h1 h2
    refine ⟨m2, ?_, g2, h3.tr g3⟩
    unfold f_X9_turn_79
    rw [bd_some g1]
  have xo := M_notOut hp hR hH
  have xh := M_highestFree hp hR hH
  have xc : f_X9_children (2 : Int32) m = _ := M_children hp hR hH 2 (by omega)
  have hl2 := hc_le σ 0 2 (p 0)
  have e8 : nI d / (8 : Int32) - nI d / (8 : Int32) / (3 : Int32) * (3 : Int32) = nI (d / 8 % 3) := by
    rw [show (8 : Int32) = nI 8 from rfl, show (3 : Int32) = nI 3 from rfl, z_div (by omega) (by omega) (by omega), z_rem (by omega) (by omega) (by omega)]
  obtain ⟨l1, l2, l3⟩ := highF_spec σ (p 1)
  unfold f_X9_turn_36
  rw [e8]
  by_cases e1 : d / 8 % 3 = 0
  · rw [if_pos (by rw [e1]; rfl), bd_some xh]
    by_cases e3 : 0 < highF σ (p 1)
    · have eh : enH σ (p 1) = nI (highF σ (p 1) - 1) := by unfold enH; rw [if_pos e3]
      have hw : highF σ (p 1) - 1 < p 1 := by omega
      rw [eh] at xh ⊢
      rw [if_neg (n4_nI (by omega)), bd_some xo]
      by_cases e2 : 1 < p 1 - hc σ 18 3 (p 1)
      · rw [if_neg (by rw [show (1 : Int32) = nI 1 from rfl, z_le (by omega) (by omega)]; omega), bd_some xc]
        by_cases e4 : 0 < hc σ 0 2 (p 0)
        · obtain ⟨m1, g1, g2, g3⟩ := M_opens hp hR hH hw
          rw [if_neg (by rw [show (0 : Int32) = nI 0 from rfl, z_le (by omega) (by omega)]; omega), bd_some xh, bd_some g1, show t2F p σ d = opnF p σ (highF σ (p 1) - 1) by unfold t2F; rw [if_pos ⟨e1, e3, e2, e4⟩]]
          exact fin _ m1 g2 (HI_opn hp hH hw) g3
        · rw [if_pos (by rw [show (0 : Int32) = nI 0 from rfl, z_le (by omega) (by omega)]; omega), show t2F p σ d = σ by unfold t2F; rw [if_neg (fun q => e4 q.2.2.2)]]
          exact fin σ m hR hH (FM.rf m)
      · rw [if_pos (by rw [show (1 : Int32) = nI 1 from rfl, z_le (by omega) (by omega)]; omega), show t2F p σ d = σ by unfold t2F; rw [if_neg (fun q => e2 q.2.2.1)]]
        exact fin σ m hR hH (FM.rf m)
    · have eh : enH σ (p 1) = -4 := by unfold enH; rw [if_neg e3]
      rw [eh, if_pos rfl, show t2F p σ d = σ by unfold t2F; rw [if_neg (fun q => e3 q.2.1)]]
      exact fin σ m hR hH (FM.rf m)
  · rw [if_neg (by rw [show (0 : Int32) = nI 0 from rfl, z_eq (by omega) (by omega)]; exact e1)]
    rw [show t2F p σ d = σ by unfold t2F; rw [if_neg (fun q => e1 q.1)]]
    exact fin σ m hR hH (FM.rf m)
theorem M_turn {p σ : Nat → Nat} {m : fm_M} (hp : PI p) (hR : RM p σ m) (hH : HI p σ) (d : Nat) (hd : d < 40000) : ∃ m', f_X9_turn (nI d) m = some (nI (tuB p σ d), m') ∧ RM p (tuF p σ d) m' ∧ FM m m' := by
  have hp0 := hp.2.2.1
  have hp00 := hp.2.1
  have hp1 := hp.2.2.2.2.1
  have hm : d % p 0 < p 0 := Nat.mod_lt _ (by omega)
  have e0 := hR.1 0 (by omega)
  have es := hR.2 (d % p 0) (by omega)
  have hb := hH.1 (d % p 0) (by omega)
  have xl := M_lowestFree hp hR hH
  obtain ⟨l1, l2, l3⟩ := lowF_spec σ (p 1)
  have er : nI d - nI d / nI (p 0) * nI (p 0) = nI (d % p 0) := z_rem (by omega) (by omega) (by omega)
  unfold f_X9_turn tuF tuB
  rw [if_pos (by decide), show (0 : Int32).toNatClampNeg = 0 from rfl, e0, if_neg (by rw [show (0 : Int32) = nI 0 from rfl, z_eq (by omega) (by omega)]; omega), er, if_pos (by rw [z_in (by omega)]; omega), z_clamp (by omega), es]
  by_cases e2 : σ (d % p 0) = 0
  · rw [if_pos (by rw [e2]; rfl), bd_some xl]
    by_cases e1 : lowF σ (p 1) < p 1
    · have el : enL σ (p 1) = nI (lowF σ (p 1)) := by unfold enL; rw [if_pos e1]
      obtain ⟨m1, g1, g2, g3⟩ := M_dresses hp hR hH e1 hm
      rw [el] at xl ⊢
      rw [if_neg (n4_nI (by omega)), bd_some xl, bd_some g1, show t1F p σ d = drF p σ (lowF σ (p 1)) (d % p 0) by unfold t1F; rw [if_pos ⟨e2, e1⟩]]
      obtain ⟨m2, k1, k2, k3⟩ := M_turn36 hp g2 (HI_dr hp hH e1 (l2 e1) hm e2) d hd
      exact ⟨m2, k1, k2, g3.tr k3⟩
    · have el : enL σ (p 1) = -4 := by unfold enL; rw [if_neg e1]
      rw [el, if_pos rfl, show t1F p σ d = σ by unfold t1F; rw [if_neg (fun q => e1 q.2)]]
      exact M_turn36 hp hR hH d hd
  · rw [if_neg (by rw [show (0 : Int32) = nI 0 from rfl, z_eq (by omega) (by omega)]; exact e2), show t1F p σ d = σ by unfold t1F; rw [if_neg (fun q => e2 q.1)]]
    exact M_turn36 hp hR hH d hd
def moF (p σ : Nat → Nat) (z : Nat) : Nat → Nat → Nat
  | 0 => σ
  | i + 1 => tuF p (moF p σ z i) (drN z i)
def moB (p σ : Nat → Nat) (z : Nat) : Nat → Nat
  | 0 => 0
  | i + 1 => moB p σ z i + tuB p (moF p σ z i) (drN z i)
theorem mo_ok {p σ : Nat → Nat} (hp : PI p) (hH : HI p σ) (z : Nat) : ∀ i, σ 28 + i < 1900 → HI p (moF p σ z i) ∧ moF p σ z i 28 = σ 28 + i
  | 0, _ => ⟨hH, rfl⟩
  | i + 1, h => by
    obtain ⟨a1, a2⟩ := mo_ok hp hH z i (by omega)
    obtain ⟨b1, b2⟩ := tu_ok hp a1 (by omega) (drN z i)
    exact ⟨b1, by rw [moF, b2, a2, Nat.add_assoc]⟩
theorem X_goByDraws {p σ : Nat → Nat} {s : fm_M} (hp : PI p) (hP : RP p s) (hR : RH p σ s 91) (hH : HI p σ) (h28 : σ 28 ≤ 999) (z n : Nat) (hz : z < 10000) (hn : n ≤ 60) : ∃ s', f_X1_goByDraws (nI z) (nI n) s = some (0, s') ∧ RH p (moF p σ z n) s' 91 ∧ FC s s' ∧ s' 90 3 = nI (moB p σ z n) := by
  obtain ⟨y, h1, s', h2, h3, h4, h5⟩ := it_go (body := fun (yy : fm_M × Int32) => f_X1_goByDraws_7 (nI z) (nI n) yy.1 yy.2) (fun i t => ∃ s', t = (s', nI i) ∧ RH p (moF p σ z i) s' 91 ∧ FC s s' ∧ s' 90 3 = nI (moB p σ z i)) (fun y => ∃ s', y = (s', nI n) ∧ RH p (moF p σ z n) s' 91 ∧ FC s s' ∧ s' 90 3 = nI (moB p σ z n)) n (fm_up s 90 3 0, 0) (by omega) ⟨_, rfl, hR.up90 _ _, FC.up _ _ _, by rw [m_up_eq, m_upd_eq]; rfl⟩ (by
    rintro i t hi ⟨s1, rfl, q1, q2, q3⟩
    left
    obtain ⟨a1, a2⟩ := mo_ok hp hH z i (by omega)
    obtain ⟨s2, g1, g2, g3, g4⟩ := X_turn hp (hP.fc q2) q1 a1 z n i hz hi hn
    exact ⟨_, g1, s2, rfl, g2, q2.tr g3, by rw [g4, q3, z_add]; rfl⟩) (by
    rintro t ⟨s1, rfl, q1, q2, q3⟩
    refine ⟨_, ?_, s1, rfl, q1, q2, q3⟩
    dsimp only [f_X1_goByDraws_7]
    simp (disch := omega) only [zl0, zl1, zl2, zl3, zl4, zl5, zl6, zl7, zl8, zl9, zl10, zl11, zl12, zl13, zl17, zl18, zl19, zl20, zl21, zl22, zl23, zl24, zl25, zl26, zl27, zl28, zl29, zl31, zl32, zl40, zl42, zl44, zl48, zl50, zl57, zl58, zl59, zl60, zl65, zl97, zl98, zl99, zl100, zl103, zl104, zl108, zl119, zl126, zl200, zl203, zl255, zl999, zl9999, zl720, zl232, z_add, z_le, z_lt, z_eq, z_clamp, z_in, z_m4, z_m4n, z_m1n, z_b0, z_b1, m_up_eq, m_up_ne, m_upd_eq, m_upd_ne, bd_s, op_s2, Bool.false_eq_true, eq_self, if_true, if_false, if_pos, if_neg])
  subst h2
  refine ⟨s', ?_, h3, h4, h5⟩
  unfold f_X1_goByDraws
  rw [op_some h1]
theorem X_whoIsOut {p σ : Nat → Nat} {s : fm_M} (hp : PI p) (hP : RP p s) (hR : RH p σ s 91) (hH : HI p σ) : f_X2_whoIsOut 91 s = some (kiF (fun c => decide (σ c = 3)) (p 0), s) := by
  have hp0 := hp.2.2.1
  have e62 := hP.1
  obtain ⟨y, h1, h2⟩ := it_go (body := fun (yy : fm_M × Int32 × Int32) => f_X2_whoIsOut_4 91 yy.1 yy.2.1 yy.2.2) (fun i t => t = (s, kiF (fun c => decide (σ c = 3)) i, nI i)) (fun y => y = (s, kiF (fun c => decide (σ c = 3)) (p 0), nI (p 0))) (p 0) (s, 0, 0) (by omega) rfl (by
    rintro i t hi rfl
    left
    obtain ⟨r1, -⟩ := hR.1 i hi
    have hb := hH.1 i (by omega)
    refine ⟨_, ?_, rfl⟩
    dsimp only [f_X2_whoIsOut_4, f_X2_whoIsOut_37]
    by_cases e : σ i = 3
    · simp (disch := omega) only [zl0, zl1, zl2, zl3, zl4, zl5, zl6, zl7, zl8, zl9, zl10, zl11, zl12, zl13, zl17, zl18, zl19, zl20, zl21, zl22, zl23, zl24, zl25, zl26, zl27, zl28, zl29, zl31, zl32, zl40, zl42, zl44, zl48, zl50, zl57, zl58, zl59, zl60, zl65, zl97, zl98, zl99, zl100, zl103, zl104, zl108, zl119, zl126, zl200, zl203, zl255, zl999, zl9999, zl720, zl232, z_add, z_le, z_lt, z_eq, z_clamp, z_in, z_m4, z_m4n, z_m1n, z_b0, z_b1, m_up_eq, m_up_ne, m_upd_eq, m_upd_ne, bd_s, op_s2, Bool.false_eq_true, eq_self, if_true, if_false, if_pos, if_neg, e62, r1, kiF, decide_eq_true e]
    · simp (disch := omega) only [zl0, zl1, zl2, zl3, zl4, zl5, zl6, zl7, zl8, zl9, zl10, zl11, zl12, zl13, zl17, zl18, zl19, zl20, zl21, zl22, zl23, zl24, zl25, zl26, zl27, zl28, zl29, zl31, zl32, zl40, zl42, zl44, zl48, zl50, zl57, zl58, zl59, zl60, zl65, zl97, zl98, zl99, zl100, zl103, zl104, zl108, zl119, zl126, zl200, zl203, zl255, zl999, zl9999, zl720, zl232, z_add, z_le, z_lt, z_eq, z_clamp, z_in, z_m4, z_m4n, z_m1n, z_b0, z_b1, m_up_eq, m_up_ne, m_upd_eq, m_upd_ne, bd_s, op_s2, Bool.false_eq_true, eq_self, if_true, if_false, if_pos, if_neg, e62, r1, kiF, decide_eq_false e]) (by
    rintro t rfl
    refine ⟨_, ?_, rfl⟩
    dsimp only [f_X2_whoIsOut_4]
    simp (disch := omega) only [zl0, zl1, zl2, zl3, zl4, zl5, zl6, zl7, zl8, zl9, zl10, zl11, zl12, zl13, zl17, zl18, zl19, zl20, zl21, zl22, zl23, zl24, zl25, zl26, zl27, zl28, zl29, zl31, zl32, zl40, zl42, zl44, zl48, zl50, zl57, zl58, zl59, zl60, zl65, zl97, zl98, zl99, zl100, zl103, zl104, zl108, zl119, zl126, zl200, zl203, zl255, zl999, zl9999, zl720, zl232, z_add, z_le, z_lt, z_eq, z_clamp, z_in, z_m4, z_m4n, z_m1n, z_b0, z_b1, m_up_eq, m_up_ne, m_upd_eq, m_upd_ne, bd_s, op_s2, Bool.false_eq_true, eq_self, if_true, if_false, if_pos, if_neg, e62])
  subst h2
  unfold f_X2_whoIsOut f_X2_whoIsOut_43
  rw [op_some h1]
theorem M_whoIsOut {p σ : Nat → Nat} {m : fm_M} (hp : PI p) (hR : RM p σ m) (hH : HI p σ) (v3 v4 : Int32) : fm_it (fun (yy : fm_M × Int32 × Int32) => f_X9_morning_99 v3 v4 yy.1 yy.2.1 yy.2.2) fm_fu (m, 0, 0) = some (m, kiF (fun c => decide (σ c = 3)) (p 0), nI (p 0)) := by
  have hp0 := hp.2.2.1
  have e0 := hR.1 0 (by omega)
  obtain ⟨y, h1, h2⟩ := it_go (body := fun (yy : fm_M × Int32 × Int32) => f_X9_morning_99 v3 v4 yy.1 yy.2.1 yy.2.2) (fun i t => t = (m, kiF (fun c => decide (σ c = 3)) i, nI i)) (fun y => y = (m, kiF (fun c => decide (σ c = 3)) (p 0), nI (p 0))) (p 0) (m, 0, 0) (by omega) rfl (by
    rintro i t hi rfl
    left
    have r1 := hR.2 i (by omega)
    have hb := hH.1 i (by omega)
    refine ⟨_, ?_, rfl⟩
    dsimp only [f_X9_morning_99, f_X9_morning_131]
    by_cases e : σ i = 3
    · simp (disch := omega) only [zl0, zl1, zl2, zl3, zl4, zl5, zl6, zl7, zl8, zl9, zl10, zl11, zl12, zl13, zl17, zl18, zl19, zl20, zl21, zl22, zl23, zl24, zl25, zl26, zl27, zl28, zl29, zl31, zl32, zl40, zl42, zl44, zl48, zl50, zl57, zl58, zl59, zl60, zl65, zl97, zl98, zl99, zl100, zl103, zl104, zl108, zl119, zl126, zl200, zl203, zl255, zl999, zl9999, zl720, zl232, z_add, z_le, z_lt, z_eq, z_clamp, z_in, z_m4, z_m4n, z_m1n, z_b0, z_b1, m_up_eq, m_up_ne, m_upd_eq, m_upd_ne, bd_s, op_s2, Bool.false_eq_true, eq_self, if_true, if_false, if_pos, if_neg, e0, r1, kiF, decide_eq_true e]
    · simp (disch := omega) only [zl0, zl1, zl2, zl3, zl4, zl5, zl6, zl7, zl8, zl9, zl10, zl11, zl12, zl13, zl17, zl18, zl19, zl20, zl21, zl22, zl23, zl24, zl25, zl26, zl27, zl28, zl29, zl31, zl32, zl40, zl42, zl44, zl48, zl50, zl57, zl58, zl59, zl60, zl65, zl97, zl98, zl99, zl100, zl103, zl104, zl108, zl119, zl126, zl200, zl203, zl255, zl999, zl9999, zl720, zl232, z_add, z_le, z_lt, z_eq, z_clamp, z_in, z_m4, z_m4n, z_m1n, z_b0, z_b1, m_up_eq, m_up_ne, m_upd_eq, m_upd_ne, bd_s, op_s2, Bool.false_eq_true, eq_self, if_true, if_false, if_pos, if_neg, e0, r1, kiF, decide_eq_false e]
      rw [show nI 0 = (0 : Int32) from rfl, Int32.or_zero]) (by
    rintro t rfl
    refine ⟨_, ?_, rfl⟩
    dsimp only [f_X9_morning_99]
    simp (disch := omega) only [zl0, zl1, zl2, zl3, zl4, zl5, zl6, zl7, zl8, zl9, zl10, zl11, zl12, zl13, zl17, zl18, zl19, zl20, zl21, zl22, zl23, zl24, zl25, zl26, zl27, zl28, zl29, zl31, zl32, zl40, zl42, zl44, zl48, zl50, zl57, zl58, zl59, zl60, zl65, zl97, zl98, zl99, zl100, zl103, zl104, zl108, zl119, zl126, zl200, zl203, zl255, zl999, zl9999, zl720, zl232, z_add, z_le, z_lt, z_eq, z_clamp, z_in, z_m4, z_m4n, z_m1n, z_b0, z_b1, m_up_eq, m_up_ne, m_upd_eq, m_upd_ne, bd_s, op_s2, Bool.false_eq_true, eq_self, if_true, if_false, if_pos, if_neg, e0])
  rw [h1, h2]
theorem R_morning {k : Nat} {x m : fm_M} (h : Rel k x m) (hk : k < 1000) (v1 v2 v3 : Int32) : Good k (f_X8_morning v1 v2 v3 x) (f_X9_morning v1 v2 v3 m) := by
  have hrel := h
  obtain ⟨p, σ, t, tn, H, hn, K, kn, sc, sn, sl, sq, ch, hI, hX, hM⟩ := h
  have hp := hI.1
  have hH := hI.2.1
  have hp0 := hp.2.2.1
  have mi1 : f_X9_in v1 0 9999 m = _ := M_in v1 (nI 0) (nI 9999) m
  have mi2 : f_X9_in v2 1 60 m = _ := M_in v2 (nI 1) (nI 60) m
  have mi3 : f_X9_in v3 0 1 m = _ := M_in v3 (nI 0) (nI 1) m
  rcases inR v1 0 9999 (by omega) (by omega) with ⟨a1, a2⟩ | ⟨a1, a2, a3, a4⟩ | ⟨z, z1, z2, rfl, a2⟩
  · rw [a2] at mi1
    refine Good.same hrel hk (r := -1) ?_ ?_
    · unfold f_X8_morning f_X8_morning_31
      rw [if_pos (show v1 < 0 from a1)]
    · unfold f_X9_morning f_X9_morning_30
      rw [bd_some mi1, if_pos (by decide)]
  · rw [a4] at mi1
    refine Good.same hrel hk (r := -1) ?_ ?_
    · unfold f_X8_morning f_X8_morning_31
      rw [if_neg (show ¬ v1 < 0 from a1), if_pos (show 9999 < v1 from a2)]
    · unfold f_X9_morning f_X9_morning_30
      rw [bd_some mi1, if_pos (by decide)]
  rw [a2] at mi1
  have x1 : ¬ nI z < 0 := by rw [show (0 : Int32) = nI 0 from rfl, z_lt (by omega) (by omega)]; omega
  have x2 : ¬ (9999 : Int32) < nI z := by rw [show (9999 : Int32) = nI 9999 from rfl, z_lt (by omega) (by omega)]; omega
  rcases inR v2 1 60 (by omega) (by omega) with ⟨b1, b2⟩ | ⟨b1, b2, b3, b4⟩ | ⟨n, n1, n2, rfl, b2⟩
  · rw [b2] at mi2
    refine Good.same hrel hk (r := -1) ?_ ?_
    · unfold f_X8_morning f_X8_morning_31
      rw [if_neg x1, if_neg x2, if_pos (show v2 < 1 from b1)]
    · unfold f_X9_morning f_X9_morning_30
      rw [bd_some mi1, if_neg (by decide), bd_some mi2, if_pos (by decide)]
  · rw [b4] at mi2
    refine Good.same hrel hk (r := -1) ?_ ?_
    · unfold f_X8_morning f_X8_morning_31
      rw [if_neg x1, if_neg x2, if_neg (show ¬ v2 < 1 from b1), if_pos (show 60 < v2 from b2)]
    · unfold f_X9_morning f_X9_morning_30
      rw [bd_some mi1, if_neg (by decide), bd_some mi2, if_pos (by decide)]
  rw [b2] at mi2
  have x3 : ¬ nI n < 1 := by rw [show (1 : Int32) = nI 1 from rfl, z_lt (by omega) (by omega)]; omega
  have x4 : ¬ (60 : Int32) < nI n := by rw [show (60 : Int32) = nI 60 from rfl, z_lt (by omega) (by omega)]; omega
  rcases inR v3 0 1 (by omega) (by omega) with ⟨b1, b2⟩ | ⟨b1, b2, b3, b4⟩ | ⟨u, u1, u2, rfl, b2⟩
  · rw [b2] at mi3
    refine Good.same hrel hk (r := -1) ?_ ?_
    · unfold f_X8_morning f_X8_morning_31
      rw [if_neg x1, if_neg x2, if_neg x3, if_neg x4, if_pos (show v3 < 0 from b1)]
    · unfold f_X9_morning f_X9_morning_30
      rw [bd_some mi1, if_neg (by decide), bd_some mi2, if_neg (by decide), bd_some mi3, if_pos (by decide)]
  · rw [b4] at mi3
    refine Good.same hrel hk (r := -1) ?_ ?_
    · unfold f_X8_morning f_X8_morning_31
      rw [if_neg x1, if_neg x2, if_neg x3, if_neg x4, if_neg (show ¬ v3 < 0 from b1), if_neg (show ¬ v3 ≤ 1 from b3)]
    · unfold f_X9_morning f_X9_morning_30
      rw [bd_some mi1, if_neg (by decide), bd_some mi2, if_neg (by decide), bd_some mi3, if_pos (by decide)]
  rw [b2] at mi3
  have x5 : ¬ nI u < 0 := by rw [show (0 : Int32) = nI 0 from rfl, z_lt (by omega) (by omega)]; omega
  have x6 : nI u ≤ (1 : Int32) := by rw [show (1 : Int32) = nI 1 from rfl, z_le (by omega) (by omega)]; omega
  have h28 := hI.2.2.1
  obtain ⟨y1, c1, c2, c3⟩ := X_startFrom hp hX.2.1 hH
  obtain ⟨y2, c4, c5, c6, c7⟩ := X_goByDraws hp (hX.1.1.fc c3) c2 hH h28 z n (by omega) n2
  obtain ⟨ho, -⟩ := mo_ok hp hH z n (by omega)
  have c8 := X_whoIsOut hp (hX.1.1.fc (c3.tr c6)) c5 ho
  obtain ⟨m1, d1, d2, d3⟩ := M_holds m
  have hR1 : RM p σ m1 := ⟨fun j hj => by rw [d2 2 (by omega)]; exact hM.1.1 j hj, fun j hj => by rw [d2 4 (by omega)]; exact hM.1.2 j hj⟩
  obtain ⟨y, e1, m2, e2, e3, e4⟩ := it_go (body := fun (yy : fm_M × Int32 × Int32) => f_X9_morning_42 (nI z) (nI n) (nI u) yy.1 yy.2.1 yy.2.2) (fun i t => ∃ m2, t = (m2, nI (moB p σ z i), nI i) ∧ RM p (moF p σ z i) m2 ∧ FM m1 m2) (fun y => ∃ m2, y = (m2, nI (moB p σ z n), nI n) ∧ RM p (moF p σ z n) m2 ∧ FM m1 m2) n (m1, 0, 0) (by omega) ⟨m1, rfl, hR1, FM.rf m1⟩ (by
    rintro i s hi ⟨m2, rfl, q1, q2⟩
    left
    obtain ⟨a1, -⟩ := mo_ok hp hH z i (by omega)
    obtain ⟨m3, g1, g2, g3⟩ := M_turn hp q1 a1 (drN z i) (drN_b z i)
    refine ⟨(m3, nI (moB p σ z (i + 1)), nI (i + 1)), ?_, m3, rfl, g2, q2.tr g3⟩
    dsimp only [f_X9_morning_42]
    rw [if_neg (by rw [z_le (by omega) (by omega)]; omega), M_draw (by omega) (by omega), bd_some g1, z_add, show (1 : Int32) = nI 1 from rfl, z_add]
    rfl) (by
    rintro s ⟨m2, rfl, q1, q2⟩
    refine ⟨_, ?_, m2, rfl, q1, q2⟩
    dsimp only [f_X9_morning_42]
    simp (disch := omega) only [zl0, zl1, zl2, zl3, zl4, zl5, zl6, zl7, zl8, zl9, zl10, zl11, zl12, zl13, zl17, zl18, zl19, zl20, zl21, zl22, zl23, zl24, zl25, zl26, zl27, zl28, zl29, zl31, zl32, zl40, zl42, zl44, zl48, zl50, zl57, zl58, zl59, zl60, zl65, zl97, zl98, zl99, zl100, zl103, zl104, zl108, zl119, zl126, zl200, zl203, zl255, zl999, zl9999, zl720, zl232, z_add, z_le, z_lt, z_eq, z_clamp, z_in, z_m4, z_m4n, z_m1n, z_b0, z_b1, m_up_eq, m_up_ne, m_upd_eq, m_upd_ne, bd_s, op_s2, Bool.false_eq_true, eq_self, if_true, if_false, if_pos, if_neg])
  subst e2
  have e5 := M_whoIsOut hp e3 ho (nI u) (nI (moB p σ z n))
  obtain ⟨m3, e6, e7, e8⟩ := M_lets m2
  have hX' : XS p σ t tn H hn K kn sc sn sl sq ch y2 := hX.fr (fun c c1 c2 c3' => by rw [c6 c (by omega), c3 c (by omega)])
  have hM' : MS p σ t tn H hn K kn sc sn sl sq m3 := hM.fr (fun c hc => by rw [e7 c (by omega), e4 c (by omega), d2 c (by omega)]) (fun j hj => by rw [e8 j hj, e4 8 (by omega), d3 j hj]) (by rw [e7 0 (by omega), e4 0 (by omega), d2 0 (by omega)]; exact ⟨rfl, rfl, rfl, rfl⟩)
  by_cases e0 : nI u = 0
  · refine ⟨kiF (fun c => decide (moF p σ z n c = 3)) (p 0), y2, m3, ?_, ?_, p, σ, t, tn, H, hn, K, kn, sc, sn, sl, sq, ch, hI.up hk, hX', hM'⟩
    · unfold f_X8_morning f_X8_morning_77
      rw [if_neg x1, if_neg x2, if_neg x3, if_neg x4, if_neg x5, if_pos x6, bd_some c1, bd_some c4, if_pos e0, bd_some c8]
    · unfold f_X9_morning f_X9_morning_155
      rw [bd_some mi1, if_neg (by decide), bd_some mi2, if_neg (by decide), bd_some mi3, if_neg (by decide), bd_some d1, op_some e1]
      dsimp only
      rw [op_some e5]
      dsimp only
      rw [bd_some e6, if_pos e0]
  · refine ⟨nI (moB p σ z n), y2, m3, ?_, ?_, p, σ, t, tn, H, hn, K, kn, sc, sn, sl, sq, ch, hI.up hk, hX', hM'⟩
    · unfold f_X8_morning f_X8_morning_77
      rw [if_neg x1, if_neg x2, if_neg x3, if_neg x4, if_neg x5, if_pos x6, bd_some c1, bd_some c4, if_neg e0, c7]
    · unfold f_X9_morning f_X9_morning_155
      rw [bd_some mi1, if_neg (by decide), bd_some mi2, if_neg (by decide), bd_some mi3, if_neg (by decide), bd_some d1, op_some e1]
      dsimp only
      rw [op_some e5]
      dsimp only
      rw [bd_some e6, if_neg e0]
