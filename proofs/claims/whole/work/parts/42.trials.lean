/-! tried: asTold, women, pays, last -/
def gI : Option (Nat × Nat) → Int32
  | none => -4
  | some (g, _) => nI g
def hI' : Option (Nat × Nat) → Int32
  | none => -4
  | some (_, b) => nI b
def roF (n c k : Nat) : Nat := if k + 1 < n ∨ n ≤ c then (if k < c then k else k + 1) else c
theorem roF_ok {p : Nat → Nat} {c : Nat} (hc : c ≤ p 0) : RO p (roF (p 0) c) := by
  intro k hk
  unfold roF
  split
  · split <;> omega
  · omega
theorem M_goesBut {p σ τ : Nat → Nat} {m : fm_M} (hp : PI p) (hR : RM p σ m) (hH : HI p σ) (h8 : ∀ j, j < 29 → m 8 j = nI (τ j)) (v : Int32) (c : Nat) (hc : c ≤ p 0) (hv : ∀ i, i < p 0 → (nI i = v ↔ i = c)) (h4 : v = -4 ↔ c = p 0) (hcv : c < p 0 → v = nI c) : ∃ m', f_X9_goesBut v m = some (gI (goR p (roF (p 0) c) σ), m') ∧ (∀ g b, goR p (roF (p 0) c) σ = some (g, b) → m' 0 14 = nI b) ∧ (∀ j, j < 29 → m' 4 j = nI (τ j)) ∧ (∀ d, ¬ d = 0 → ¬ d = 4 → ¬ d = 9 → m' d = m d) ∧ ∀ k, ¬ k = 14 → m' 0 k = m 0 k := by
  have hp0 := hp.2.2.1
  have hp00 := hp.2.1
  have e0 := hR.1 0 (by omega)
  have main : ∀ m1 : fm_M, (∀ d, ¬ d = 9 → m1 d = m d) → RR p (roF (p 0) c) m1 → ∃ m', f_X9_goesBut_60 m1 = some (gI (goR p (roF (p 0) c) σ), m') ∧ (∀ g b, goR p (roF (p 0) c) σ = some (g, b) → m' 0 14 = nI b) ∧ (∀ j, j < 29 → m' 4 j = nI (τ j)) ∧ (∀ d, ¬ d = 0 → ¬ d = 4 → ¬ d = 9 → m' d = m d) ∧ ∀ k, ¬ k = 14 → m' 0 k = m 0 k := by
    intro m1 q1 q2
    have hR1 : RM p σ m1 := ⟨fun j hj => by rw [q1 2 (by omega)]; exact hR.1 j hj, fun j hj => by rw [q1 4 (by omega)]; exact hR.2 j hj⟩
    rcases M_goes hp (roF_ok hc) hR1 hH q2 with ⟨g, b, m2, a1, a2, a3, a4⟩ | ⟨m2, a1, a2, a4⟩
    · obtain ⟨m3, b1, b2, b3⟩ := M_lets m2
      refine ⟨m3, ?_, fun g' b' h => ?_, fun j hj => ?_, fun d d0 d4 d9 => ?_, fun k hk => ?_⟩
      · unfold f_X9_goesBut_60
        rw [bd_some a2, bd_some b1, a1]; rfl
      · rw [a1] at h
        cases h
        rw [b2 0 (by omega)]; exact a3
      · rw [b3 j hj, a4.1 8 (by omega) (by omega), q1 8 (by omega)]; exact h8 j hj
      · rw [b2 d d4, a4.1 d d4 d0, q1 d d9]
      · rw [b2 0 (by omega), a4.2 k hk, q1 0 (by omega)]
    · obtain ⟨m3, b1, b2, b3⟩ := M_lets m2
      refine ⟨m3, ?_, fun g' b' h => ?_, fun j hj => ?_, fun d d0 d4 d9 => ?_, fun k hk => ?_⟩
      · unfold f_X9_goesBut_60
        rw [bd_some a2, bd_some b1, a1]; rfl
      · rw [a1] at h
        cases h
      · rw [b3 j hj, a4.1 8 (by omega) (by omega), q1 8 (by omega)]; exact h8 j hj
      · rw [b2 d d4, a4.1 d d4 d0, q1 d d9]
      · rw [b2 0 (by omega), a4.2 k hk, q1 0 (by omega)]
  obtain ⟨y, h1, m1, h2, h3, h4'⟩ := it_go (body := fun (yy : fm_M × Int32 × Int32) => f_X9_goesBut_4 v yy.1 yy.2.1 yy.2.2) (fun i t => ∃ m1, t = (m1, nI (if i ≤ c then i else i - 1), nI i) ∧ (∀ d, ¬ d = 9 → m1 d = m d) ∧ ∀ k, k < (if i ≤ c then i else i - 1) → m1 9 k = nI (if k < c then k else k + 1)) (fun y => ∃ m1, y = (m1, nI (if p 0 ≤ c then p 0 else p 0 - 1), nI (p 0)) ∧ (∀ d, ¬ d = 9 → m1 d = m d) ∧ ∀ k, k < (if p 0 ≤ c then p 0 else p 0 - 1) → m1 9 k = nI (if k < c then k else k + 1)) (p 0) (m, 0, 0) (by omega) ⟨m, by rw [if_pos (by omega)]; rfl, fun _ _ => rfl, fun k hk => by rw [if_pos (by omega)] at hk; omega⟩ (by
    rintro i t hi ⟨m1, rfl, q1, q2⟩
    left
    have e0' : m1 2 0 = nI (p 0) := by rw [q1 2 (by omega)]; exact e0
    obtain ⟨at_, hat⟩ : ∃ a, a = if i ≤ c then i else i - 1 := ⟨_, rfl⟩
    have hal : at_ ≤ i := by rw [hat]; split <;> omega
    rw [← hat] at q2 ⊢
    by_cases e : i = c
    · have ev : nI i = v := (hv i hi).mpr e
      refine ⟨(fm_up m1 9 at_ (nI i), nI (if i + 1 ≤ c then i + 1 else i + 1 - 1), nI (i + 1)), ?_, _, rfl, fun d hd => by rw [m_up_ne hd]; exact q1 d hd, fun k hk => ?_⟩
      · rw [if_neg (by omega), show i + 1 - 1 = at_ by rw [hat, if_pos (by omega)]; omega]
        rw [← ev]
        dsimp only [f_X9_goesBut_4, f_X9_goesBut_32]
        simp (disch := omega) only [zl0, zl1, zl2, zl3, zl4, zl5, zl6, zl7, zl8, zl9, zl10, zl11, zl12, zl13, zl17, zl18, zl19, zl20, zl21, zl22, zl23, zl24, zl25, zl26, zl27, zl28, zl29, zl31, zl32, zl40, zl42, zl44, zl48, zl50, zl57, zl58, zl59, zl60, zl65, zl97, zl98, zl99, zl100, zl103, zl104, zl108, zl119, zl126, zl200, zl203, zl255, zl999, zl9999, zl720, zl232, z_add, z_le, z_lt, z_eq, z_clamp, z_in, z_m4, z_m4n, z_m1n, z_b0, z_b1, m_up_eq, m_up_ne, m_upd_eq, m_upd_ne, bd_s, op_s2, Bool.false_eq_true, eq_self, if_true, if_false, if_pos, if_neg, e0', Nat.add_zero]
      · rw [if_neg (by omega)] at hk
        rw [if_pos (by omega)] at hat
        rw [m_up_eq, m_upd_ne (by omega)]
        exact q2 k (by omega)
    · have ev : ¬ nI i = v := fun q => e ((hv i hi).mp q)
      have hat' : (if i + 1 ≤ c then i + 1 else i + 1 - 1) = at_ + 1 := by
        rw [hat]
        by_cases e2 : i ≤ c
        · rw [if_pos e2, if_pos (by omega)]
        · rw [if_neg e2, if_neg (by omega)]; omega
      refine ⟨(fm_up m1 9 at_ (nI i), nI (if i + 1 ≤ c then i + 1 else i + 1 - 1), nI (i + 1)), ?_, _, rfl, fun d hd => by rw [m_up_ne hd]; exact q1 d hd, fun k hk => ?_⟩
      · rw [hat']
        dsimp only [f_X9_goesBut_4, f_X9_goesBut_32]
        simp (disch := omega) only [zl0, zl1, zl2, zl3, zl4, zl5, zl6, zl7, zl8, zl9, zl10, zl11, zl12, zl13, zl17, zl18, zl19, zl20, zl21, zl22, zl23, zl24, zl25, zl26, zl27, zl28, zl29, zl31, zl32, zl40, zl42, zl44, zl48, zl50, zl57, zl58, zl59, zl60, zl65, zl97, zl98, zl99, zl100, zl103, zl104, zl108, zl119, zl126, zl200, zl203, zl255, zl999, zl9999, zl720, zl232, z_add, z_le, z_lt, z_eq, z_clamp, z_in, z_m4, z_m4n, z_m1n, z_b0, z_b1, m_up_eq, m_up_ne, m_upd_eq, m_upd_ne, bd_s, op_s2, Bool.false_eq_true, eq_self, if_true, if_false, if_pos, if_neg, e0', ev]
      · rw [hat'] at hk
        rw [m_up_eq]
        by_cases e3 : k = at_
        · rw [e3, m_upd_eq]
          congr 1
          rw [hat]
          by_cases e2 : i ≤ c
          · rw [if_pos e2, if_pos (by omega)]
          · rw [if_neg e2, if_neg (by omega)]; omega
        · rw [m_upd_ne e3]; exact q2 k (by omega)) (by
    rintro t ⟨m1, rfl, q1, q2⟩
    have e0' : m1 2 0 = nI (p 0) := by rw [q1 2 (by omega)]; exact e0
    refine ⟨_, ?_, m1, rfl, q1, q2⟩
    dsimp only [f_X9_goesBut_4]
    simp (disch := omega) only [zl0, zl1, zl2, zl3, zl4, zl5, zl6, zl7, zl8, zl9, zl10, zl11, zl12, zl13, zl17, zl18, zl19, zl20, zl21, zl22, zl23, zl24, zl25, zl26, zl27, zl28, zl29, zl31, zl32, zl40, zl42, zl44, zl48, zl50, zl57, zl58, zl59, zl60, zl65, zl97, zl98, zl99, zl100, zl103, zl104, zl108, zl119, zl126, zl200, zl203, zl255, zl999, zl9999, zl720, zl232, z_add, z_le, z_lt, z_eq, z_clamp, z_in, z_m4, z_m4n, z_m1n, z_b0, z_b1, m_up_eq, m_up_ne, m_upd_eq, m_upd_ne, bd_s, op_s2, Bool.false_eq_true, eq_self, if_true, if_false, if_pos, if_neg, e0'])
  subst h2
  have e0' : m1 2 0 = nI (p 0) := by rw [h3 2 (by omega)]; exact e0
  unfold f_X9_goesBut
  rw [op_some h1]
  dsimp only
  by_cases e : c = p 0
  · rw [if_pos (h4.mpr e)]
    refine main m1 h3 (fun k hk => ?_)
    unfold roF
    rw [if_pos (by omega)]
    exact h4' k (by rw [if_pos (by omega)]; exact hk)
  · rw [if_neg (fun q => e (h4.mp q))]
    have hcl : c < p 0 := by omega
    have ei : fm_in (m1 2 0 - 1) 6 = true := by
      rw [e0', show (1 : Int32) = nI 1 from rfl, z_sub (by omega), z_in (by omega)]; omega
    have ec : (m1 2 0 - 1).toNatClampNeg = p 0 - 1 := by
      rw [e0', show (1 : Int32) = nI 1 from rfl, z_sub (by omega), z_clamp (by omega)]
    rw [if_pos (by decide), show (0 : Int32).toNatClampNeg = 0 from rfl, if_pos ei, ec]
    refine main _ (fun d hd => by rw [m_up_ne hd]; exact h3 d hd) (fun k hk => ?_)
    rw [m_up_eq]
    unfold roF
    by_cases e3 : k = p 0 - 1
    · rw [e3, m_upd_eq, if_neg (by omega)]; exact hcv hcl
    · rw [m_upd_ne e3, if_pos (by omega)]
      exact h4' k (by rw [if_neg (by omega)]; omega)
theorem M_goesAll {p σ τ : Nat → Nat} {m : fm_M} (hp : PI p) (hR : RM p σ m) (hH : HI p σ) (h8 : ∀ j, j < 29 → m 8 j = nI (τ j)) : ∃ m', f_X9_goesBut (-4) m = some (gI (goR p (roF (p 0) (p 0)) σ), m') ∧ (∀ g b, goR p (roF (p 0) (p 0)) σ = some (g, b) → m' 0 14 = nI b) ∧ (∀ j, j < 29 → m' 4 j = nI (τ j)) ∧ (∀ d, ¬ d = 0 → ¬ d = 4 → ¬ d = 9 → m' d = m d) ∧ ∀ k, ¬ k = 14 → m' 0 k = m 0 k := by
  have hp0 := hp.2.2.1
  refine M_goesBut hp hR hH h8 (-4) (p 0) (by omega) (fun i hi => ⟨fun q => ?_, fun q => by omega⟩) ⟨fun _ => rfl, fun _ => rfl⟩ (fun q => by omega)
  rw [show (-4 : Int32) = -nI 4 from rfl] at q
  have h := congrArg Int32.toInt q
  rw [nI_toInt (by omega)] at h
  rw [show (-nI 4).toInt = -4 from by decide] at h
  omega
theorem z_subneg {a b : Nat} (ha : a < 10000) (hb : b < 10000) (h : a < b) : (nI a - nI b).toInt < 0 := by
  rw [Int32.toInt_sub, nI_toInt (by omega), nI_toInt (by omega)]
  rw [Int.bmod_def]
  split <;> omega
/-- a trial in the class, from the hall at 91 -/
theorem X_trial {p σ ρ : Nat → Nat} {s : fm_M} {r : Nat} (hp : PI p) (hρ : RO p ρ) (hr : r < 90 ∨ 97 < r) (hP : RP p s) (hR : RH p σ s 91) (hH : HI p σ) (hX : RX p ρ s r) (h28 : σ 28 ≤ 999) : ∃ v s', f_X1_minutesTillLunch s = some (v, s) ∧ f_X1_goOn r v s = some (0, s') ∧ s' 90 2 = gI (goR p ρ σ) ∧ s' 90 3 = hI' (goR p ρ σ) ∧ FC s s' := by
  have h4 := hp.2.2.2.2.2.2.2.2.2.2.1
  have hv : ∀ i : Nat, i < 5000 → (nI (p 4) - nI (σ 28) < nI i ↔ p 4 + 1 - σ 28 ≤ i) := by
    intro i hi
    by_cases e : σ 28 ≤ p 4
    · rw [z_sub e, z_lt (by omega) (by omega)]; omega
    · rw [z_neg_lt (z_subneg (by omega) (by omega) (by omega)) (by omega)]
      exact ⟨fun _ => by omega, fun _ => trivial⟩
  refine ⟨nI (p 4) - nI (σ 28), ?_⟩
  have ht : f_X1_minutesTillLunch s = some (nI (p 4) - nI (σ 28), s) := by
    unfold f_X1_minutesTillLunch
    rw [hP.2.2.2.1, hR.2.2.2.2.1]
  rcases X_goOn hp hρ hr hv (by omega) hP hR hH hX (by omega) with ⟨g, b, s', a1, a2, a3, a4, a5⟩ | ⟨s', a1, a2, a3, a4, a5⟩
  · refine ⟨s', ht, a2, ?_, ?_, a5⟩
    · unfold goR; rw [a1]; exact a3
    · unfold goR; rw [a1]; exact a4
  · refine ⟨s', ht, a2, ?_, ?_, a5⟩
    · unfold goR; rw [a1]; exact a3
    · unfold goR; rw [a1]; exact a4
theorem X_startFrom {p σ : Nat → Nat} {s : fm_M} (hp : PI p) (hR : RH p σ s 9) (hH : HI p σ) : ∃ s', f_X1_startFrom 9 s = some (0, s') ∧ RH p σ s' 91 ∧ FC s s' := by
  obtain ⟨s', h1, h2, h3, -⟩ := X_copyFrom (s := s) (a := 91) (g := 9) (by omega) (hR.b9 hH)
  refine ⟨s', ?_, h2.rh hp hR, fun c hc => h3 c (by omega)⟩
  unfold f_X1_startFrom
  rw [bd_some h1]
theorem RX_all {p : Nat → Nat} {s : fm_M} (hp : PI p) (h : ∀ j, j < 6 → s 1000 j = nI j) : RX p (roF (p 0) (p 0)) s 1000 := by
  have hp0 := hp.2.2.1
  refine ⟨fun k hk => ?_, fun k k1 k2 => ?_⟩
  · rw [h k (by omega)]
    unfold roF
    rw [if_pos (by omega), if_pos hk]
  · rw [h k k2, ← Bool.not_eq_true, z_in (by omega)]; omega
theorem goF_le {p ρ : Nat → Nat} : ∀ (k : Nat) (σ : Nat → Nat) (g b g' b' : Nat), goF p ρ k σ g b = some (g', b') → g ≤ g' ∧ g' < g + k
  | 0, σ, g, b, g', b', h => by simp [goF] at h
  | k + 1, σ, g, b, g', b', h => by
    unfold goF at h
    split at h
    · simp only [Option.some.injEq, Prod.mk.injEq] at h
      omega
    · have := goF_le k _ _ _ g' b' h
      omega
theorem gI_no {p ρ σ : Nat → Nat} (hp : PI p) {g b : Nat} (h : goR p ρ σ = some (g, b)) : ¬ gI (some (g, b)) = -4 := by
  have h4 := hp.2.2.2.2.2.2.2.2.2.2.1
  have := goF_le _ _ _ _ _ _ h
  intro q
  have q' : nI g = -4 := q
  have z := congrArg Int32.toInt q'
  rw [nI_toInt (by omega), show (-4 : Int32).toInt = -4 from by decide] at z
  omega
theorem R_asTold {k : Nat} {x m : fm_M} (h : Rel k x m) (hk : k < 1000) (v1 : Int32) : Good k (f_X8_asTold v1 x) (f_X9_asTold v1 m) := by
  have hrel := h
  obtain ⟨p, σ, t, tn, H, hn, K, kn, sc, sn, sl, sq, ch, hI, hX, hM⟩ := h
  have hp := hI.1
  have hH := hI.2.1
  have hp0 := hp.2.2.1
  have mi1 : f_X9_in v1 0 1 m = _ := M_in v1 (nI 0) (nI 1) m
  rcases inR v1 0 1 (by omega) (by omega) with ⟨a1, a2⟩ | ⟨a1, a2, a3, a4⟩ | ⟨i, i1, i2, rfl, a2⟩
  · rw [a2] at mi1
    refine Good.same hrel hk (r := -1) ?_ ?_
    · unfold f_X8_asTold f_X8_asTold_9
      rw [if_pos (show v1 < 0 from a1)]
    · unfold f_X9_asTold
      rw [bd_some mi1, if_pos (by decide)]
  · rw [a4] at mi1
    refine Good.same hrel hk (r := -1) ?_ ?_
    · unfold f_X8_asTold f_X8_asTold_9
      rw [if_neg (show ¬ v1 < 0 from a1), if_neg (show ¬ v1 ≤ 1 from a3)]
    · unfold f_X9_asTold
      rw [bd_some mi1, if_pos (by decide)]
  rw [a2] at mi1
  have x1 : ¬ nI i < 0 := by rw [show (0 : Int32) = nI 0 from rfl, z_lt (by omega) (by omega)]; omega
  have x2 : nI i ≤ (1 : Int32) := by rw [show (1 : Int32) = nI 1 from rfl, z_le (by omega) (by omega)]; omega
  obtain ⟨y1, b1, b2, b3⟩ := X_startFrom hp hX.2.1 hH
  obtain ⟨v, y2, c1, c2, c3, c4, c5⟩ := X_trial hp (roF_ok (Nat.le_refl (p 0))) (r := 1000) (by omega) (hX.1.1.fc b3) b2 hH (RX_all hp (fun j hj => by rw [b3 1000 (by omega)]; exact hX.2.2.2.2.2.2.2.2.2 j hj)) hI.2.2.1
  have fx : ∀ c, c < 90 ∨ 97 < c → y2 c = x c := fun c hc => by rw [c5 c hc, b3 c hc]
  obtain ⟨m1, d1, d2, d3⟩ := M_holds m
  have hR1 : RM p σ m1 := ⟨fun j hj => by rw [d2 2 (by omega)]; exact hM.1.1 j hj, fun j hj => by rw [d2 4 (by omega)]; exact hM.1.2 j hj⟩
  obtain ⟨m2, e1, e2, e3, e4, e5⟩ := M_goesAll (τ := σ) hp hR1 hH (fun j hj => by rw [d3 j hj]; exact hM.1.2 j hj)
  have hX' : XS p σ t tn H hn K kn sc sn sl sq ch y2 := hX.fr (fun c c1 c2 c3 => fx c (by omega))
  have hM' : MS p σ t tn H hn K kn sc sn sl sq m2 := hM.fr (fun c hc => by rw [e4 c (by omega) (by omega) (by omega), d2 c (by omega)]) (fun j hj => by rw [e3 j hj]; exact (hM.1.2 j hj).symm) (by rw [e5 1 (by omega), e5 6 (by omega), e5 8 (by omega), e5 10 (by omega), d2 0 (by omega)]; exact ⟨rfl, rfl, rfl, rfl⟩)
  by_cases e0 : nI i = 0
  · refine ⟨gI (goR p (roF (p 0) (p 0)) σ), y2, m2, ?_, ?_, p, σ, t, tn, H, hn, K, kn, sc, sn, sl, sq, ch, hI.up hk, hX', hM'⟩
    · unfold f_X8_asTold f_X8_asTold_60
      rw [if_neg x1, if_pos x2, bd_some b1, bd_some c1, bd_some c2, if_pos e0, c3]
    · unfold f_X9_asTold f_X9_asTold_32 f_X9_asTold_40
      rw [bd_some mi1, if_neg (by decide), bd_some d1, bd_some e1, if_pos e0]
  · refine ⟨hI' (goR p (roF (p 0) (p 0)) σ), y2, m2, ?_, ?_, p, σ, t, tn, H, hn, K, kn, sc, sn, sl, sq, ch, hI.up hk, hX', hM'⟩
    · unfold f_X8_asTold f_X8_asTold_60
      rw [if_neg x1, if_pos x2, bd_some b1, bd_some c1, bd_some c2, if_neg e0, c4]
    · unfold f_X9_asTold f_X9_asTold_32 f_X9_asTold_40
      rw [bd_some mi1, if_neg (by decide), bd_some d1, bd_some e1, if_neg e0]
      rcases hg : goR p (roF (p 0) (p 0)) σ with _ | ⟨g, b⟩
      · rw [if_pos (by rfl)]; rfl
      · rw [e2 g b hg]
        rw [if_neg (gI_no hp hg)]
        rfl
theorem PI_w {p : Nat → Nat} (hp : PI p) {n : Nat} (h1 : 1 ≤ n) (h3 : n ≤ 3) : PI (un p 1 n) := by
  obtain ⟨a1, a2, a3, a4, a5, a6, a7, a8, a9, a10, a11, a12⟩ := hp
  refine ⟨fun j hj => ?_, ?_, ?_, ?_, ?_, ?_, ?_, ?_, ?_, ?_, ?_, fun c hc => ?_⟩
  · by_cases e : j = 1
    · rw [e, un_eq]; omega
    · rw [un_ne e]; exact a1 j hj
  all_goals (first | (rw [un_eq]; omega) | (rw [un_ne (by omega)]; omega) | skip)
  rw [un_ne (by omega)] at hc
  rw [un_ne (by omega), un_ne (by omega)]
  exact a12 c hc
theorem R_women {k : Nat} {x m : fm_M} (h : Rel k x m) (hk : k < 1000) (v1 : Int32) : Good k (f_X8_women v1 x) (f_X9_women v1 m) := by
  have hrel := h
  obtain ⟨p, σ, t, tn, H, hn, K, kn, sc, sn, sl, sq, ch, hI, hX, hM⟩ := h
  have hp := hI.1
  have hH := hI.2.1
  have hp0 := hp.2.2.1
  have mi1 : f_X9_in v1 1 3 m = _ := M_in v1 (nI 1) (nI 3) m
  rcases inR v1 1 3 (by omega) (by omega) with ⟨a1, a2⟩ | ⟨a1, a2, a3, a4⟩ | ⟨i, i1, i2, rfl, a2⟩
  · rw [a2] at mi1
    refine Good.same hrel hk (r := -1) ?_ ?_
    · unfold f_X8_women f_X8_women_10
      rw [if_pos (show v1 < 1 from a1)]
    · unfold f_X9_women
      rw [bd_some mi1, if_pos (by decide)]
  · rw [a4] at mi1
    refine Good.same hrel hk (r := -1) ?_ ?_
    · unfold f_X8_women f_X8_women_10
      rw [if_neg (show ¬ v1 < 1 from a1), if_neg (show ¬ v1 ≤ 3 from a3)]
    · unfold f_X9_women
      rw [bd_some mi1, if_pos (by decide)]
  rw [a2] at mi1
  have x1 : ¬ nI i < 1 := by rw [show (1 : Int32) = nI 1 from rfl, z_lt (by omega) (by omega)]; omega
  have x2 : nI i ≤ (3 : Int32) := by rw [show (3 : Int32) = nI 3 from rfl, z_le (by omega) (by omega)]; omega
  have hq := PI_w hp i1 i2
  have q0 : un p 1 i 0 = p 0 := un_ne (by omega)
  obtain ⟨y1, b1, b2, b3, b4, b5, b6, b7, -⟩ := X_startAgain (s := x) (a := 91) (k := i)
  have fb : FC x y1 := fun c hc => b7 c (by omega)
  have hz : RH (un p 1 i) zF y1 91 := RH_z hq b2 b3 (by rw [un_eq]; exact b4) b5 b6
  have hP' : RP (un p 1 i) y1 := by
    have := hX.1.1.fc fb
    unfold RP at this ⊢
    rw [q0, un_ne (show ¬ 2 = 1 by omega), un_ne (show ¬ 3 = 1 by omega), un_ne (show ¬ 4 = 1 by omega)]
    refine ⟨this.1, this.2.1, this.2.2.1, this.2.2.2.1, fun c hc => ?_⟩
    rw [un_ne (by omega), un_ne (by omega)]
    exact this.2.2.2.2 c hc
  obtain ⟨v, y2, c1, c2, c3, c4, c5⟩ := X_trial hq (roF_ok (Nat.le_refl _)) (r := 1000) (by omega) hP' hz (HI_z _) (RX_all hq (fun j hj => by rw [fb 1000 (by omega)]; exact hX.2.2.2.2.2.2.2.2.2 j hj)) (Nat.zero_le 999)
  have fx : ∀ c, c < 90 ∨ 97 < c → y2 c = x c := fun c hc => by rw [c5 c hc, fb c hc]
  obtain ⟨m1, d1, d2, d3⟩ := M_holds m
  obtain ⟨m2, f1, f2, f3⟩ := M_starts m1
  have hR2 : RM (un p 1 i) zF (fm_up m2 2 1 (nI i)) := by
    refine ⟨fun j hj => ?_, fun j hj => ?_⟩
    · rw [m_up_eq]
      by_cases e : j = 1
      · rw [e, m_upd_eq, un_eq]
      · rw [m_upd_ne e, un_ne e, f2 2 (by omega), d2 2 (by omega)]; exact hM.1.1 j hj
    · rw [m_up_ne (by omega)]; exact f3 j hj
  obtain ⟨m3, e1, e2, e3, e4, e5⟩ := M_goesAll (τ := σ) hq hR2 (HI_z _) (fun j hj => by rw [m_up_ne (by omega), f2 8 (by omega), d3 j hj]; exact hM.1.2 j hj)
  have hX' : XS p σ t tn H hn K kn sc sn sl sq ch y2 := hX.fr (fun c c1 c2 c3 => fx c (by omega))
  have g2 : m1 2 1 = m 2 1 := by rw [d2 2 (by omega)]
  have hM' : MS p σ t tn H hn K kn sc sn sl sq (fm_up m3 2 1 (m1 2 1)) := by
    refine hM.fr (fun c hc => ?_) (fun j hj => ?_) ?_
    · by_cases e : c = 2
      · rw [e, m_up_eq]
        funext j
        by_cases ej : j = 1
        · rw [ej, m_upd_eq, g2]
        · rw [m_upd_ne ej, e4 2 (by omega) (by omega) (by omega), m_up_eq, m_upd_ne ej, f2 2 (by omega), d2 2 (by omega)]
      · rw [m_up_ne e, e4 c (by omega) (by omega) (by omega), m_up_ne e, f2 c (by omega), d2 c (by omega)]
    · rw [m_up_ne (by omega), e3 j hj]; exact (hM.1.2 j hj).symm
    · rw [m_up_ne (by omega), e5 1 (by omega), e5 6 (by omega), e5 8 (by omega), e5 10 (by omega), m_up_ne (by omega), f2 0 (by omega), d2 0 (by omega)]; exact ⟨rfl, rfl, rfl, rfl⟩
  refine ⟨gI (goR (un p 1 i) (roF (un p 1 i 0) (un p 1 i 0)) zF), y2, _, ?_, ?_, p, σ, t, tn, H, hn, K, kn, sc, sn, sl, sq, ch, hI.up hk, hX', hM'⟩
  · unfold f_X8_women
    rw [if_neg x1, if_pos x2, bd_some b1, bd_some c1, bd_some c2, c3]
  · unfold f_X9_women
    rw [bd_some mi1, if_neg (by decide), bd_some d1, if_pos (by decide), bd_some f1, if_pos (by decide), show (1 : Int32).toNatClampNeg = 1 from rfl, bd_some e1, if_pos (by decide)]
theorem R_pays {k : Nat} {x m : fm_M} (h : Rel k x m) (hk : k < 1000) : Good k (f_X8_pays x) (f_X9_pays m) := by
  have hrel := h
  obtain ⟨p, σ, t, tn, H, hn, K, kn, sc, sn, sl, sq, ch, hI, hX, hM⟩ := h
  have hp := hI.1
  have hH := hI.2.1
  have hp0 := hp.2.2.1
  have hp1 := hp.2.2.2.2.1
  have xl := X_lowestFree hp hX.2.1 hH
  have xc := X_canLay hp hX.2.1 hH (enL σ (p 1))
  obtain ⟨m1, d1, d2, d3⟩ := M_holds m
  have hR1 : RM p σ m1 := ⟨fun j hj => by rw [d2 2 (by omega)]; exact hM.1.1 j hj, fun j hj => by rw [d2 4 (by omega)]; exact hM.1.2 j hj⟩
  have h81 : ∀ j, j < 29 → m1 8 j = nI (σ j) := fun j hj => by rw [d3 j hj]; exact hM.1.2 j hj
  obtain ⟨m2, e1, -, e3, e4, e5⟩ := M_goesAll (τ := σ) hp hR1 hH h81
  have hR2 : RM p σ m2 := ⟨fun j hj => by rw [e4 2 (by omega) (by omega) (by omega)]; exact hR1.1 j hj, e3⟩
  have hM2 : MS p σ t tn H hn K kn sc sn sl sq m2 := hM.fr (fun c hc => by rw [e4 c (by omega) (by omega) (by omega), d2 c (by omega)]) (fun j hj => by rw [e3 j hj]; exact (hM.1.2 j hj).symm) (by rw [e5 1 (by omega), e5 6 (by omega), e5 8 (by omega), e5 10 (by omega), d2 0 (by omega)]; exact ⟨rfl, rfl, rfl, rfl⟩)
  have ml := M_lowestFree hp hR2 hH
  have mq := M_isLaid hp hR2 hH
  obtain ⟨l1, l2, l3⟩ := lowF_spec σ (p 1)
  by_cases ew : lowF σ (p 1) < p 1
  · have el : enL σ (p 1) = nI (lowF σ (p 1)) := by unfold enL; rw [if_pos ew]
    have hf := l2 ew
    have n4 : ¬ nI (lowF σ (p 1)) = -4 := by
      intro q
      have z := congrArg Int32.toInt q
      rw [nI_toInt (by omega), show (-4 : Int32).toInt = -4 from by decide] at z
      omega
    rw [el] at xl xc ml
    rw [show fm_in (nI (lowF σ (p 1))) (p 1) = true from by rw [z_in (by omega)]; exact ew, z_clamp (by omega), decide_eq_true hf] at xc
    by_cases eq : σ 27 = 1 ∨ 0 < hc σ 18 2 (p 1)
    · rw [decide_eq_true eq] at xc mq
      refine ⟨-4, x, m2, ?_, ?_, p, σ, t, tn, H, hn, K, kn, sc, sn, sl, sq, ch, hI.up hk, hX, hM2⟩
      · unfold f_X8_pays
        rw [bd_some xl, bd_some xc, if_pos (by decide)]
      · unfold f_X9_pays f_X9_pays_29
        rw [bd_some d1, bd_some e1, bd_some ml, if_neg n4, bd_some mq, if_neg (by decide)]
    · rw [decide_eq_false eq] at xc mq
      obtain ⟨y1, b1, b2, b3⟩ := X_startFrom hp hX.2.1 hH
      have r1000 : ∀ j, j < 6 → x 1000 j = nI j := hX.2.2.2.2.2.2.2.2.2
      obtain ⟨v, y2, c1, c2, c3, c4, c5⟩ := X_trial hp (roF_ok (Nat.le_refl (p 0))) (r := 1000) (by omega) (hX.1.1.fc b3) b2 hH (RX_all hp (fun j hj => by rw [b3 1000 (by omega)]; exact r1000 j hj)) hI.2.2.1
      have f2 : FC x y2 := b3.tr c5
      obtain ⟨y3, b1', b2', b3'⟩ := X_startFrom hp (hX.2.1.fr (fun c c1 c2 => f2 c (by omega))) hH
      have f3 : FC x y3 := f2.tr b3'
      obtain ⟨y4, g1, g2, g3, -⟩ := X_lay hp (by omega) b2' hH ew hf eq
      have f4 : FC x y4 := f3.tr g3.c
      have hHb : HI p (begF σ (lowF σ (p 1)) 2 3 0) := HI_beg hp hH ew (by omega) (by omega) (by omega) (by omega) (by omega)
      have h28b : begF σ (lowF σ (p 1)) 2 3 0 28 ≤ 999 := by rw [begF_o (by omega) (by omega) (by omega)]; exact hI.2.2.1
      obtain ⟨v', y5, c1', c2', c3', c4', c5'⟩ := X_trial hp (roF_ok (Nat.le_refl (p 0))) (r := 1000) (by omega) (hX.1.1.fc f4) g2 hHb (RX_all hp (fun j hj => by rw [f4 1000 (by omega)]; exact r1000 j hj)) h28b
      have f5 : FC x y5 := f4.tr c5'
      have hX' : XS p σ t tn H hn K kn sc sn sl sq ch y5 := hX.fr (fun c c1 c2 c3 => f5 c (by omega))
      obtain ⟨m3, k1, k2, k3⟩ := M_begin (how := 2) (k := 3) (c := 0) hR2 (show lowF σ (p 1) < 3 by omega)
      obtain ⟨m4, e1', -, e3', e4', e5'⟩ := M_goesAll (τ := σ) hp k2 hHb (fun j hj => by rw [k3 8 (by omega), e4 8 (by omega) (by omega) (by omega)]; exact h81 j hj)
      have hM4 : MS p σ t tn H hn K kn sc sn sl sq m4 := hM2.fr (fun c hc => by rw [e4' c (by omega) (by omega) (by omega), k3 c (by omega)]) (fun j hj => by rw [e3' j hj, e3 j hj]) (by rw [e5' 1 (by omega), e5' 6 (by omega), e5' 8 (by omega), e5' 10 (by omega), k3 0 (by omega)]; exact ⟨rfl, rfl, rfl, rfl⟩)
      have k1' : f_X9_begin (nI (lowF σ (p 1))) 2 3 0 m2 = some (0, m3) := k1
      have xs : ∀ r, (if gI (goR p (roF (p 0) (p 0)) σ) = (-4 : Int32) then f_X8_pays_116 y5 else if gI (goR p (roF (p 0) (p 0)) (begF σ (lowF σ (p 1)) 2 3 0)) = (-4 : Int32) then f_X8_pays_116 y5 else some (((gI (goR p (roF (p 0) (p 0)) σ) - gI (goR p (roF (p 0) (p 0)) (begF σ (lowF σ (p 1)) 2 3 0))) + (100 : Int32)), y5)) = some (r, y5) → f_X8_pays x = some (r, y5) := by
        intro r hr
        unfold f_X8_pays
        rw [bd_some xl, bd_some xc, if_neg (by decide), bd_some b1, bd_some c1, bd_some c2, bd_some b1', bd_some g1, bd_some c1', bd_some c2', c3, c3']
        exact hr
      have ms : ∀ r, (if gI (goR p (roF (p 0) (p 0)) σ) = (-4 : Int32) then f_X9_pays_59 m4 else if gI (goR p (roF (p 0) (p 0)) (begF σ (lowF σ (p 1)) 2 3 0)) = (-4 : Int32) then f_X9_pays_59 m4 else f_X9_pays_70 (((100 : Int32) + gI (goR p (roF (p 0) (p 0)) σ)) - gI (goR p (roF (p 0) (p 0)) (begF σ (lowF σ (p 1)) 2 3 0))) m4) = some (r, m4) → f_X9_pays m = some (r, m4) := by
        intro r hr
        unfold f_X9_pays
        rw [bd_some d1, bd_some e1, bd_some ml, if_neg n4, bd_some mq, if_pos (by decide), bd_some k1', bd_some e1']
        exact hr
      by_cases z1 : gI (goR p (roF (p 0) (p 0)) σ) = -4
      · exact ⟨-4, y5, m4, xs _ (by rw [if_pos z1]; rfl), ms _ (by rw [if_pos z1]; rfl), p, σ, t, tn, H, hn, K, kn, sc, sn, sl, sq, ch, hI.up hk, hX', hM4⟩
      · by_cases z2 : gI (goR p (roF (p 0) (p 0)) (begF σ (lowF σ (p 1)) 2 3 0)) = -4
        · exact ⟨-4, y5, m4, xs _ (by rw [if_neg z1, if_pos z2]; rfl), ms _ (by rw [if_neg z1, if_pos z2]; rfl), p, σ, t, tn, H, hn, K, kn, sc, sn, sl, sq, ch, hI.up hk, hX', hM4⟩
        · refine ⟨_, y5, m4, xs _ (by rw [if_neg z1, if_neg z2]), ms _ ?_, p, σ, t, tn, H, hn, K, kn, sc, sn, sl, sq, ch, hI.up hk, hX', hM4⟩
          rw [if_neg z1, if_neg z2]
          unfold f_X9_pays_70
          rw [Int32.sub_eq_add_neg, Int32.sub_eq_add_neg, Int32.add_comm 100, Int32.add_assoc, Int32.add_comm 100, ← Int32.add_assoc]
  · have el : enL σ (p 1) = -4 := by unfold enL; rw [if_neg ew]
    rw [el] at xl xc ml
    rw [show fm_in (-4) (p 1) = false from by rw [← Bool.not_eq_true, z_neg_in (by decide)]; exact fun q => q, Bool.false_and, Bool.false_and] at xc
    refine ⟨-4, x, m2, ?_, ?_, p, σ, t, tn, H, hn, K, kn, sc, sn, sl, sq, ch, hI.up hk, hX, hM2⟩
    · unfold f_X8_pays
      rw [bd_some xl, bd_some xc, if_pos (by decide)]
    · unfold f_X9_pays f_X9_pays_29
      rw [bd_some d1, bd_some e1, bd_some ml, if_pos rfl]
