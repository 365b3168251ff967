/-! Course.goOn -/
theorem opn_ready {p σ : Nat → Nat} (hp : PI p) (h : mayF p σ) : 0 < hc σ 0 2 (p 0) := by
  have hp3 := hp.2.2.2.2.2.2.2.1
  rcases h.2 with q | q
  · omega
  · exact q.1
theorem X_doorsL {p : Nat → Nat} (hp : PI p) : ∀ (n fu : Nat) (σ : Nat → Nat) (s : fm_M) (i : Nat), i + n = 3 → n < fu → RP p s → RH p σ s 91 → HI p σ → ∃ s' j, fm_it (fun (yy : fm_M × Int32) => f_X1_openDoors_2 yy.1 yy.2) fu (s, nI i) = some (s', j) ∧ RH p (dsF p n σ) s' 91 ∧ FH 91 s s' := by
  have hp0 := hp.2.2.1
  have hp1 := hp.2.2.2.2.1
  intro n
  induction n with
  | zero =>
    intro fu σ s i hi hf hP hR hH
    obtain ⟨fu, rfl⟩ : ∃ k, fu = k + 1 := ⟨fu - 1, by omega⟩
    refine ⟨s, nI i, ?_, hR, FH.rf 91 s⟩
    have hb : f_X1_openDoors_2 s (nI i) = some (.inr (s, nI i)) := by
      unfold f_X1_openDoors_2
      simp (disch := omega) only [zl0, zl1, zl2, zl3, zl4, zl5, zl6, zl7, zl8, zl9, zl10, zl11, zl12, zl13, zl17, zl18, zl19, zl20, zl21, zl22, zl23, zl24, zl25, zl26, zl27, zl28, zl29, zl31, zl32, zl40, zl42, zl44, zl48, zl50, zl57, zl58, zl59, zl60, zl65, zl97, zl98, zl99, zl100, zl103, zl104, zl108, zl119, zl126, zl200, zl203, zl255, zl999, zl9999, zl720, zl232, z_add, z_le, z_lt, z_eq, z_clamp, z_in, z_m4, z_m4n, z_m1n, z_b0, z_b1, m_up_eq, m_up_ne, m_upd_eq, m_upd_ne, bd_s, op_s2, Bool.false_eq_true, eq_self, if_true, if_false, if_pos, if_neg]
    unfold fm_it
    simp only [hb]
  | succ n ih =>
    intro fu σ s i hi hf hP hR hH
    obtain ⟨fu, rfl⟩ : ∃ k, fu = k + 1 := ⟨fu - 1, by omega⟩
    have hd := X_doorIsDue hp hP hR hH
    by_cases e : mayF p σ
    · obtain ⟨h1, h2, h3⟩ := opn_free hp e
      have hh := X_highestFree hp hR hH
      unfold enH at hh
      rw [if_pos e.1] at hh
      obtain ⟨s1, g1, g2, g3, -⟩ := X_openDoor hp (by omega) hP hR hH h2 h3 (opn_ready hp e)
      obtain ⟨s', j, k1, k2, k3⟩ := ih fu (opnF p σ (highF σ (p 1) - 1)) s1 (i + 1) (by omega) (by omega) (hP.fh (by omega) g3) g2 (HI_opn hp hH h2)
      refine ⟨s', j, ?_, by rw [dsF, if_pos e]; exact k2, g3.tr k3⟩
      rw [decide_eq_true e] at hd
      have hb : f_X1_openDoors_2 s (nI i) = some (.inl (s1, nI (i + 1))) := by
        unfold f_X1_openDoors_2
        simp (disch := omega) only [zl0, zl1, zl2, zl3, zl4, zl5, zl6, zl7, zl8, zl9, zl10, zl11, zl12, zl13, zl17, zl18, zl19, zl20, zl21, zl22, zl23, zl24, zl25, zl26, zl27, zl28, zl29, zl31, zl32, zl40, zl42, zl44, zl48, zl50, zl57, zl58, zl59, zl60, zl65, zl97, zl98, zl99, zl100, zl103, zl104, zl108, zl119, zl126, zl200, zl203, zl255, zl999, zl9999, zl720, zl232, z_add, z_le, z_lt, z_eq, z_clamp, z_in, z_m4, z_m4n, z_m1n, z_b0, z_b1, m_up_eq, m_up_ne, m_upd_eq, m_upd_ne, bd_s, op_s2, Bool.false_eq_true, eq_self, if_true, if_false, if_pos, if_neg, hd, hh, g1, bI]
      unfold fm_it
      simp only [hb]
      exact k1
    · refine ⟨s, nI i, ?_, by rw [dsF, if_neg e]; exact hR, FH.rf 91 s⟩
      rw [decide_eq_false e] at hd
      have hb : f_X1_openDoors_2 s (nI i) = some (.inr (s, nI i)) := by
        unfold f_X1_openDoors_2
        simp (disch := omega) only [zl0, zl1, zl2, zl3, zl4, zl5, zl6, zl7, zl8, zl9, zl10, zl11, zl12, zl13, zl17, zl18, zl19, zl20, zl21, zl22, zl23, zl24, zl25, zl26, zl27, zl28, zl29, zl31, zl32, zl40, zl42, zl44, zl48, zl50, zl57, zl58, zl59, zl60, zl65, zl97, zl98, zl99, zl100, zl103, zl104, zl108, zl119, zl126, zl200, zl203, zl255, zl999, zl9999, zl720, zl232, z_add, z_le, z_lt, z_eq, z_clamp, z_in, z_m4, z_m4n, z_m1n, z_b0, z_b1, m_up_eq, m_up_ne, m_upd_eq, m_upd_ne, bd_s, op_s2, Bool.false_eq_true, eq_self, if_true, if_false, if_pos, if_neg, hd, bI]
      unfold fm_it
      simp only [hb]
theorem X_openDoors {p σ : Nat → Nat} {s : fm_M} (hp : PI p) (hP : RP p s) (hR : RH p σ s 91) (hH : HI p σ) : ∃ s', f_X1_openDoors s = some (0, s') ∧ RH p (dsF p 3 σ) s' 91 ∧ FH 91 s s' := by
  obtain ⟨s', j, h1, h2, h3⟩ := X_doorsL hp 3 fm_fu σ s 0 (by omega) (by unfold fm_fu; omega) hP hR hH
  refine ⟨s', ?_, h2, h3⟩
  unfold f_X1_openDoors f_X1_openDoors_35
  rw [show (0 : Int32) = nI 0 from rfl, op_some h1]
/-- the class's row array at cell r holds ρ; behind it no child's number stands -/
def RX (p ρ : Nat → Nat) (s : fm_M) (r : Nat) : Prop := (∀ k, k < p 0 → s r k = nI (ρ k)) ∧ ∀ k, p 0 ≤ k → k < 6 → fm_in (s r k) (p 0) = false
theorem RX.fh {p ρ : Nat → Nat} {s s' : fm_M} {r : Nat} (h : RX p ρ s r) (e : s' r = s r) : RX p ρ s' r := by unfold RX; rw [e]; exact h
theorem X_firstBare {p σ ρ : Nat → Nat} {s : fm_M} {r : Nat} (hp : PI p) (hP : RP p s) (hR : RH p σ s 91) (hH : HI p σ) (hρ : RO p ρ) (hX : RX p ρ s r) : f_X1_firstBare r s = some (if fbF σ ρ (p 0) < p 0 then nI (ρ (fbF σ ρ (p 0))) else -4, s) := by
  have hp0 := hp.2.2.1
  obtain ⟨c1, c2, c3⟩ := fbF_spec σ ρ (p 0)
  have step : ∀ k, k < 6 → (k < fbF σ ρ (p 0) ∨ p 0 ≤ k) → f_X1_firstBare_2 r s (nI k) = some (.inl (s, nI (k + 1))) := by
    intro k hk h
    have hb := X_isBare hp hP hR hH (s r k)
    have e : (fm_in (s r k) (p 0) && decide (σ (s r k).toNatClampNeg = 0)) = false := by
      rcases (show k < p 0 ∨ p 0 ≤ k by omega) with q | q
      · have hz := hρ k q
        rw [hX.1 k q, z_clamp (by omega), decide_eq_false (c3 k (by omega)), Bool.and_false]
      · rw [hX.2 k q hk, Bool.false_and]
    rw [e] at hb
    unfold f_X1_firstBare_2
    simp (disch := omega) only [zl0, zl1, zl2, zl3, zl4, zl5, zl6, zl7, zl8, zl9, zl10, zl11, zl12, zl13, zl17, zl18, zl19, zl20, zl21, zl22, zl23, zl24, zl25, zl26, zl27, zl28, zl29, zl31, zl32, zl40, zl42, zl44, zl48, zl50, zl57, zl58, zl59, zl60, zl65, zl97, zl98, zl99, zl100, zl103, zl104, zl108, zl119, zl126, zl200, zl203, zl255, zl999, zl9999, zl720, zl232, z_add, z_le, z_lt, z_eq, z_clamp, z_in, z_m4, z_m4n, z_m1n, z_b0, z_b1, m_up_eq, m_up_ne, m_upd_eq, m_upd_ne, bd_s, op_s2, Bool.false_eq_true, eq_self, if_true, if_false, if_pos, if_neg, hb, bI]
  obtain ⟨x, h1, h2⟩ := it_go (body := fun (yy : fm_M × Int32) => f_X1_firstBare_2 r yy.1 yy.2) (fun k t => t = (s, nI k)) (fun x => x = if fbF σ ρ (p 0) < p 0 then .inl (nI (ρ (fbF σ ρ (p 0))), s) else .inr (s, nI 6)) (if fbF σ ρ (p 0) < p 0 then fbF σ ρ (p 0) else 6) (s, 0) (by split <;> omega) rfl (by
    rintro k t hk rfl
    left
    refine ⟨(s, nI (k + 1)), ?_, rfl⟩
    by_cases e : fbF σ ρ (p 0) < p 0
    · rw [if_pos e] at hk
      exact step k (by omega) (Or.inl hk)
    · rw [if_neg e] at hk
      exact step k hk (by omega)) (by
    rintro t rfl
    refine ⟨_, ?_, rfl⟩
    by_cases e : fbF σ ρ (p 0) < p 0
    · rw [if_pos e, if_pos e]
      have hz := hρ _ e
      have hb := X_isBare hp hP hR hH (s r (fbF σ ρ (p 0)))
      rw [hX.1 _ e, z_clamp (by omega), decide_eq_true (c2 e), show fm_in (nI (ρ (fbF σ ρ (p 0)))) (p 0) = true by rw [z_in (by omega)]; exact hz] at hb
      dsimp only [f_X1_firstBare_2]
      have hx := hX.1 _ e
      simp (disch := omega) only [zl0, zl1, zl2, zl3, zl4, zl5, zl6, zl7, zl8, zl9, zl10, zl11, zl12, zl13, zl17, zl18, zl19, zl20, zl21, zl22, zl23, zl24, zl25, zl26, zl27, zl28, zl29, zl31, zl32, zl40, zl42, zl44, zl48, zl50, zl57, zl58, zl59, zl60, zl65, zl97, zl98, zl99, zl100, zl103, zl104, zl108, zl119, zl126, zl200, zl203, zl255, zl999, zl9999, zl720, zl232, z_add, z_le, z_lt, z_eq, z_clamp, z_in, z_m4, z_m4n, z_m1n, z_b0, z_b1, m_up_eq, m_up_ne, m_upd_eq, m_upd_ne, bd_s, op_s2, Bool.false_eq_true, eq_self, if_true, if_false, if_pos, if_neg, hx, hb, bI, Bool.and_self]
    · rw [if_neg e, if_neg e]
      dsimp only [f_X1_firstBare_2]
      simp (disch := omega) only [zl0, zl1, zl2, zl3, zl4, zl5, zl6, zl7, zl8, zl9, zl10, zl11, zl12, zl13, zl17, zl18, zl19, zl20, zl21, zl22, zl23, zl24, zl25, zl26, zl27, zl28, zl29, zl31, zl32, zl40, zl42, zl44, zl48, zl50, zl57, zl58, zl59, zl60, zl65, zl97, zl98, zl99, zl100, zl103, zl104, zl108, zl119, zl126, zl200, zl203, zl255, zl999, zl9999, zl720, zl232, z_add, z_le, z_lt, z_eq, z_clamp, z_in, z_m4, z_m4n, z_m1n, z_b0, z_b1, m_up_eq, m_up_ne, m_upd_eq, m_upd_ne, bd_s, op_s2, Bool.false_eq_true, eq_self, if_true, if_false, if_pos, if_neg])
  unfold f_X1_firstBare
  rw [op_some h1, h2]
  by_cases e : fbF σ ρ (p 0) < p 0
  · rw [if_pos e, if_pos e]; rfl
  · rw [if_neg e, if_neg e]; rfl
theorem X_dressByRow {p σ ρ : Nat → Nat} {s : fm_M} {r : Nat} (hp : PI p) (hP : RP p s) (hR : RH p σ s 91) (hH : HI p σ) (hρ : RO p ρ) (hX : RX p ρ s r) (hr : r < 91 ∨ 97 < r) : ∃ s', f_X1_dressByRow r s = some (0, s') ∧ RH p (trF p ρ σ (p 1)) s' 91 ∧ FH 91 s s' := by
  have hp0 := hp.2.2.1
  have hp1 := hp.2.2.2.2.1
  obtain ⟨x, h1, s', h2, h3, h4⟩ := it_go (body := fun (yy : fm_M × Int32) => f_X1_dressByRow_2 r yy.1 yy.2) (fun k t => ∃ s', t = (s', nI k) ∧ RH p (trF p ρ σ k) s' 91 ∧ FH 91 s s') (fun x => ∃ s', x = (s', nI (p 1)) ∧ RH p (trF p ρ σ (p 1)) s' 91 ∧ FH 91 s s') (p 1) (s, 0) (by omega) ⟨s, rfl, hR, FH.rf 91 s⟩ (by
    rintro k t hk ⟨s', rfl, hR', hF⟩
    left
    obtain ⟨hH', -⟩ := HI_tr hp hρ hH k (by omega)
    have hP' := hP.fh (a := 91) (by omega) hF
    have q7 := hR'.2.2.2.1
    have hf := X_isFree hp hR' hH' (nI k)
    rw [z_clamp (by omega), show fm_in (nI k) (p 1) = true by rw [z_in (by omega)]; exact hk, Bool.true_and] at hf
    have hfb := X_firstBare hp hP' hR' hH' hρ (hX.fh (hF r (by omega)))
    by_cases e1 : trF p ρ σ k (18 + k) = 0
    · rw [decide_eq_true e1] at hf
      by_cases e2 : fbF (trF p ρ σ k) ρ (p 0) < p 0
      · have hq := hρ _ e2
        rw [if_pos e2] at hfb
        obtain ⟨s3, g1, g2, g3, -⟩ := X_dress hp (a := 91) (by omega) hP' hR' hH' hk e1 hq ((fbF_spec _ _ _).2.1 e2)
        refine ⟨(s3, nI (k + 1)), ?_, _, rfl, by rw [trF, if_pos ⟨e1, e2⟩]; exact g2, hF.tr g3⟩
        dsimp only [f_X1_dressByRow_2, f_X1_dressByRow_38]
        simp (disch := omega) only [zl0, zl1, zl2, zl3, zl4, zl5, zl6, zl7, zl8, zl9, zl10, zl11, zl12, zl13, zl17, zl18, zl19, zl20, zl21, zl22, zl23, zl24, zl25, zl26, zl27, zl28, zl29, zl31, zl32, zl40, zl42, zl44, zl48, zl50, zl57, zl58, zl59, zl60, zl65, zl97, zl98, zl99, zl100, zl103, zl104, zl108, zl119, zl126, zl200, zl203, zl255, zl999, zl9999, zl720, zl232, z_add, z_le, z_lt, z_eq, z_clamp, z_in, z_m4, z_m4n, z_m1n, z_b0, z_b1, m_up_eq, m_up_ne, m_upd_eq, m_upd_ne, bd_s, op_s2, Bool.false_eq_true, eq_self, if_true, if_false, if_pos, if_neg, q7, hf, hfb, g1, bI]
      · rw [if_neg e2] at hfb
        have hno := X_dressNo (v1 := nI k) (v2 := -4) hp hP' hR' hH' (by rw [z_neg_in (n := p 0) (by decide) |> fun h => (by rw [← Bool.not_eq_true, h]; exact fun q => q : fm_in (-4) (p 0) = false), Bool.false_and, Bool.and_false])
        refine ⟨(s', nI (k + 1)), ?_, _, rfl, by rw [trF, if_neg (fun q => e2 q.2)]; exact hR', hF⟩
        dsimp only [f_X1_dressByRow_2, f_X1_dressByRow_38]
        rw [q7, if_neg (by rw [z_le (by omega) (by omega)]; omega), bd_some hf, if_neg (by decide), bd_some hfb, bd_some hno]
        simp (disch := omega) only [zl0, zl1, zl2, zl3, zl4, zl5, zl6, zl7, zl8, zl9, zl10, zl11, zl12, zl13, zl17, zl18, zl19, zl20, zl21, zl22, zl23, zl24, zl25, zl26, zl27, zl28, zl29, zl31, zl32, zl40, zl42, zl44, zl48, zl50, zl57, zl58, zl59, zl60, zl65, zl97, zl98, zl99, zl100, zl103, zl104, zl108, zl119, zl126, zl200, zl203, zl255, zl999, zl9999, zl720, zl232, z_add, z_le, z_lt, z_eq, z_clamp, z_in, z_m4, z_m4n, z_m1n, z_b0, z_b1, m_up_eq, m_up_ne, m_upd_eq, m_upd_ne, bd_s, op_s2, Bool.false_eq_true, eq_self, if_true, if_false, if_pos, if_neg]
    · rw [decide_eq_false e1] at hf
      refine ⟨(s', nI (k + 1)), ?_, _, rfl, by rw [trF, if_neg (fun q => e1 q.1)]; exact hR', hF⟩
      dsimp only [f_X1_dressByRow_2, f_X1_dressByRow_38]
      simp (disch := omega) only [zl0, zl1, zl2, zl3, zl4, zl5, zl6, zl7, zl8, zl9, zl10, zl11, zl12, zl13, zl17, zl18, zl19, zl20, zl21, zl22, zl23, zl24, zl25, zl26, zl27, zl28, zl29, zl31, zl32, zl40, zl42, zl44, zl48, zl50, zl57, zl58, zl59, zl60, zl65, zl97, zl98, zl99, zl100, zl103, zl104, zl108, zl119, zl126, zl200, zl203, zl255, zl999, zl9999, zl720, zl232, z_add, z_le, z_lt, z_eq, z_clamp, z_in, z_m4, z_m4n, z_m1n, z_b0, z_b1, m_up_eq, m_up_ne, m_upd_eq, m_upd_ne, bd_s, op_s2, Bool.false_eq_true, eq_self, if_true, if_false, if_pos, if_neg, q7, hf, bI]) (by
    rintro t ⟨s', rfl, hR', hF⟩
    have q7 := hR'.2.2.2.1
    refine ⟨_, ?_, s', rfl, hR', hF⟩
    dsimp only [f_X1_dressByRow_2]
    simp (disch := omega) only [zl0, zl1, zl2, zl3, zl4, zl5, zl6, zl7, zl8, zl9, zl10, zl11, zl12, zl13, zl17, zl18, zl19, zl20, zl21, zl22, zl23, zl24, zl25, zl26, zl27, zl28, zl29, zl31, zl32, zl40, zl42, zl44, zl48, zl50, zl57, zl58, zl59, zl60, zl65, zl97, zl98, zl99, zl100, zl103, zl104, zl108, zl119, zl126, zl200, zl203, zl255, zl999, zl9999, zl720, zl232, z_add, z_le, z_lt, z_eq, z_clamp, z_in, z_m4, z_m4n, z_m1n, z_b0, z_b1, m_up_eq, m_up_ne, m_upd_eq, m_upd_ne, bd_s, op_s2, Bool.false_eq_true, eq_self, if_true, if_false, if_pos, if_neg, q7])
  refine ⟨s', ?_, h3, h4⟩
  subst h2
  unfold f_X1_dressByRow
  rw [op_some h1]
/-- what goOn may change: the course, its hall -/
def FC (s s' : fm_M) : Prop := ∀ c, c < 90 ∨ 97 < c → s' c = s c
theorem FC.rf (s : fm_M) : FC s s := fun _ _ => rfl
theorem FC.tr {x y z : fm_M} (h1 : FC x y) (h2 : FC y z) : FC x z := fun k hk => (h2 k hk).trans (h1 k hk)
theorem FH.c {s s' : fm_M} (h : FH 91 s s') : FC s s' := fun c hc => h c (by omega)
theorem FC.up (s : fm_M) (k : Nat) (v : Int32) : FC s (fm_up s 90 k v) := fun _ hc => m_up_ne (by omega)
theorem RP.fc {p : Nat → Nat} {s s' : fm_M} (h : RP p s) (hF : FC s s') : RP p s' := by
  obtain ⟨h1, h2, h3, h4, h5⟩ := h
  rw [← hF 6 (by omega)] at h1 h2 h3 h4
  refine ⟨h1, h2, h3, h4, fun c hc => ?_⟩
  rw [hF 7 (by omega), hF 8 (by omega)]
  exact h5 c hc
theorem RH.up90 {p σ : Nat → Nat} {s : fm_M} (h : RH p σ s 91) (k : Nat) (v : Int32) : RH p σ (fm_up s 90 k v) 91 := by
  unfold RH
  simp (disch := omega) only [m_up_ne]
  exact h
theorem X_goOnL {p ρ : Nat → Nat} {r : Nat} (hp : PI p) (hρ : RO p ρ) (hr : r < 90 ∨ 97 < r) (v2 : Int32) (most : Nat) (hv : ∀ i : Nat, i < 5000 → (v2 < nI i ↔ most ≤ i)) (hm : most ≤ 3000) : ∀ (k fu : Nat) (σ : Nat → Nat) (s : fm_M) (g b : Nat), g + k = most → k < fu → RP p s → RH p σ s 91 → HI p σ → RX p ρ s r → s 90 3 = nI b → σ 28 + k ≤ 2000 →
    ∃ q, fm_it (fun (yy : fm_M × Int32) => f_X1_goOn_7 r v2 yy.1 yy.2) fu (s, nI g) = some q ∧ ((∃ g' b' s', goF p ρ k σ g b = some (g', b') ∧ q = .inl (0, s') ∧ s' 90 2 = nI g' ∧ s' 90 3 = nI b' ∧ FC s s') ∨ (∃ s' j, goF p ρ k σ g b = none ∧ q = .inr (s', j) ∧ FC s s')) := by
  have hp0 := hp.2.2.1
  have hp1 := hp.2.2.2.2.1
  intro k
  induction k with
  | zero =>
    intro fu σ s g b hg hf hP hR hH hX h3 h28
    obtain ⟨fu, rfl⟩ : ∃ j, fu = j + 1 := ⟨fu - 1, by omega⟩
    refine ⟨.inr (s, nI g), ?_, Or.inr ⟨s, _, rfl, rfl, FC.rf s⟩⟩
    have hb : f_X1_goOn_7 r v2 s (nI g) = some (.inr (.inr (s, nI g))) := by
      unfold f_X1_goOn_7
      rw [if_pos ((hv g (by omega)).mpr (by omega))]
    unfold fm_it
    simp only [hb]
  | succ k ih =>
    intro fu σ s g b hg hf hP hR hH hX h3 h28
    obtain ⟨fu, rfl⟩ : ∃ j, fu = j + 1 := ⟨fu - 1, by omega⟩
    have hlt : ¬ v2 < nI g := fun q => by have := (hv g (by omega)).mp q; omega
    obtain ⟨s1, g1, g2, g3⟩ := X_openDoors hp hP hR hH
    obtain ⟨hH1, e28⟩ := HI_ds hp 3 σ hH
    have hP1 := hP.fh (a := 91) (by omega) g3
    have hao := X_allAreOut hp hP1 g2 hH1
    by_cases e : hc (dsF p 3 σ) 0 3 (p 0) = p 0
    · rw [decide_eq_true e] at hao
      refine ⟨.inl (0, fm_up s1 90 2 (nI g)), ?_, Or.inl ⟨g, b, _, by rw [goF, if_pos e], rfl, by rw [m_up_eq, m_upd_eq], by rw [m_up_eq, m_upd_ne (by omega), g3 90 (by omega)]; exact h3, g3.c.tr (FC.up _ _ _)⟩⟩
      have hb : f_X1_goOn_7 r v2 s (nI g) = some (.inr (.inl (0, fm_up s1 90 2 (nI g)))) := by
        unfold f_X1_goOn_7
        rw [if_neg hlt, bd_some g1, bd_some hao, if_neg (by decide)]
      unfold fm_it
      simp only [hb]
    · rw [decide_eq_false e] at hao
      obtain ⟨s2, k1, k2, k3⟩ := X_dressByRow hp hP1 g2 hH1 hρ (hX.fh (g3 r (by omega))) (by omega)
      obtain ⟨hH2, f28⟩ := HI_tr hp hρ hH1 (p 1) (Nat.le_refl _)
      have hP2 := hP1.fh (a := 91) (by omega) k3
      obtain ⟨s3, l1, l2, l3, -⟩ := X_goMinute hp (a := 91) (by omega) hP2 k2 hH2
      have hHn := HI_nx hp hρ hH (by omega)
      have f3 : s2 90 3 = nI b := by rw [k3 90 (by omega), g3 90 (by omega)]; exact h3
      have hFs : FC s (fm_up s3 90 3 (nI (b + nxB p ρ σ))) := ((g3.c.tr k3.c).tr l3.c).tr (FC.up _ _ _)
      obtain ⟨q, q1, q2⟩ := ih fu (nxF p ρ σ) (fm_up s3 90 3 (nI (b + nxB p ρ σ))) (g + 1) (b + nxB p ρ σ) (by omega) (by omega) (hP.fc hFs) (RH.up90 l2 _ _) hHn.1 (hX.fh (hFs r (by omega))) (by rw [m_up_eq, m_upd_eq]) (by rw [hHn.2]; omega)
      have hb : f_X1_goOn_7 r v2 s (nI g) = some (.inl (fm_up s3 90 3 (nI (b + nxB p ρ σ)), nI (g + 1))) := by
        unfold f_X1_goOn_7
        rw [if_neg hlt, bd_some g1, bd_some hao, if_pos (by decide), bd_some k1, bd_some l1, f3, z_add, show (1 : Int32) = nI 1 from rfl, z_add]
        rfl
      refine ⟨q, by unfold fm_it; simp only [hb]; exact q1, ?_⟩
      rw [goF, if_neg e]
      rcases q2 with ⟨g', b', s', r1, r2, r3, r4, r5⟩ | ⟨s', j, r1, r2, r4⟩
      · exact Or.inl ⟨g', b', s', r1, r2, r3, r4, hFs.tr r5⟩
      · exact Or.inr ⟨s', j, r1, r2, hFs.tr r4⟩
/-- goOn with so many minutes at most (k = most + 1; 0: below 0) -/
theorem X_goOn {p ρ σ : Nat → Nat} {s : fm_M} {r : Nat} (hp : PI p) (hρ : RO p ρ) (hr : r < 90 ∨ 97 < r) {v2 : Int32} {k : Nat} (hv : ∀ i : Nat, i < 5000 → (v2 < nI i ↔ k ≤ i)) (hm : k ≤ 3000) (hP : RP p s) (hR : RH p σ s 91) (hH : HI p σ) (hX : RX p ρ s r) (h28 : σ 28 + k ≤ 2000) : (∃ g b s', goF p ρ k σ 0 0 = some (g, b) ∧ f_X1_goOn r v2 s = some (0, s') ∧ s' 90 2 = nI g ∧ s' 90 3 = nI b ∧ FC s s') ∨ (∃ s', goF p ρ k σ 0 0 = none ∧ f_X1_goOn r v2 s = some (0, s') ∧ s' 90 2 = -4 ∧ s' 90 3 = -4 ∧ FC s s') := by
  obtain ⟨q, h1, h2⟩ := X_goOnL hp hρ hr v2 k hv hm k fm_fu σ (fm_up s 90 3 (nI 0)) 0 0 (by omega) (by unfold fm_fu; omega) (hP.fc (FC.up _ _ _)) (hR.up90 _ _) hH (hX.fh (m_up_ne (by omega))) (by rw [m_up_eq, m_upd_eq]) h28
  have hb : f_X1_goOn r v2 s = Sum.elim (fun r => some r) (fun t => some (0, (fm_up (fm_up t.1 90 2 (-4 : Int32)) 90 3 (-4 : Int32)))) q := by
    unfold f_X1_goOn
    rw [show (0 : Int32) = nI 0 from rfl, op_some h1]
  rcases h2 with ⟨g', b', s', r1, r2, r3, r4, r5⟩ | ⟨s', j, r1, r2, r4⟩
  · subst r2
    exact Or.inl ⟨g', b', s', r1, by rw [hb]; rfl, r3, r4, (FC.up _ _ _).tr r5⟩
  · subst r2
    refine Or.inr ⟨_, r1, by rw [hb]; rfl, ?_, ?_, ((FC.up _ _ _).tr r4).tr ((FC.up _ _ _).tr (FC.up _ _ _))⟩
    · rw [m_up_eq, m_upd_ne (by omega), m_up_eq, m_upd_eq]
    · rw [m_up_eq, m_upd_eq]
