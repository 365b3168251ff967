/-! it goes on: the doors, a minute, until all are out -/
theorem hc_drop {σ τ : Nat → Nat} {fr how w : Nat} : ∀ {n : Nat}, w < n → σ (fr + w) = how → ¬ τ (fr + w) = how → (∀ v, v < n → ¬ v = w → (σ (fr + v) = how ↔ τ (fr + v) = how)) → hc τ fr how n + 1 = hc σ fr how n
  | 0, h, _, _, _ => by omega
  | n + 1, h, h1, h2, h3 => by
    unfold hc
    rcases (show w < n ∨ w = n by omega) with q | q
    · have := hc_drop q h1 h2 (fun v hv => h3 v (by omega))
      have h4 := h3 n (by omega) (by omega)
      by_cases e : σ (fr + n) = how
      · rw [if_pos e, if_pos (h4.mp e)]; omega
      · rw [if_neg e, if_neg (fun z => e (h4.mpr z))]; omega
    · subst q
      rw [if_pos h1, if_neg h2, hc_cong (fun k hk => (h3 k (by omega) (by omega)).symm)]
theorem opnF_18 {p σ : Nat → Nat} {w v : Nat} (hp : p 0 ≤ 6) (hw : w < 3) (hv : v < 3) : opnF p σ w (18 + v) = if v = w then 3 else σ (18 + v) := by
  unfold opnF begF
  rw [un_ne (by omega), un_ne (by omega)]
  by_cases e : v = w
  · subst e; rw [un_eq, if_pos rfl]
  · rw [un_ne (by omega), if_neg e, opF_hi hp (by omega)]
def dsF (p : Nat → Nat) : Nat → (Nat → Nat) → Nat → Nat
  | 0, σ => σ
  | k + 1, σ => if mayF p σ then dsF p k (opnF p σ (highF σ (p 1) - 1)) else σ
theorem dsF_no {p σ : Nat → Nat} (h : ¬ mayF p σ) : ∀ n, dsF p n σ = σ
  | 0 => rfl
  | n + 1 => by rw [dsF, if_neg h]
theorem opn_free {p σ : Nat → Nat} (hp : PI p) (h : mayF p σ) : hc (opnF p σ (highF σ (p 1) - 1)) 18 0 (p 1) + 1 = hc σ 18 0 (p 1) ∧ highF σ (p 1) - 1 < p 1 ∧ σ (18 + (highF σ (p 1) - 1)) = 0 := by
  have hp0 := hp.2.2.1
  have hp1 := hp.2.2.2.2.1
  obtain ⟨h1, h2, h3⟩ := highF_spec σ (p 1)
  have h4 := h2 h.1
  refine ⟨hc_drop (by omega) h4 (by rw [opnF_18 hp0 (by omega) (by omega), if_pos rfl]; omega) (fun v hv hne => ?_), by omega, h4⟩
  rw [opnF_18 hp0 (by omega) (by omega), if_neg hne]
theorem HI_ds {p : Nat → Nat} (hp : PI p) : ∀ n σ, HI p σ → HI p (dsF p n σ) ∧ dsF p n σ 28 = σ 28
  | 0, σ, h => ⟨h, rfl⟩
  | n + 1, σ, h => by
    unfold dsF
    split
    · rename_i e
      obtain ⟨h1, h2, h3⟩ := opn_free hp e
      have hp0 := hp.2.2.1
      have hp1 := hp.2.2.2.2.1
      obtain ⟨h4, h5⟩ := HI_ds hp n _ (HI_opn hp h h2)
      exact ⟨h4, by rw [h5, opnF_28 hp0 (by omega)]⟩
    · exact ⟨h, rfl⟩
theorem dsF_end {p : Nat → Nat} (hp : PI p) : ∀ n σ, hc σ 18 0 (p 1) ≤ n → ¬ mayF p (dsF p n σ)
  | 0, σ, h => fun q => by
    obtain ⟨h1, h2, h3⟩ := opn_free hp q
    rw [dsF] at h1
    omega
  | n + 1, σ, h => by
    unfold dsF
    split
    · rename_i e
      obtain ⟨h1, h2, h3⟩ := opn_free hp e
      exact dsF_end hp n _ (by omega)
    · rename_i e
      exact e
theorem dsF_more {p : Nat → Nat} (hp : PI p) : ∀ n k σ, hc σ 18 0 (p 1) ≤ n → dsF p (n + k) σ = dsF p n σ
  | 0, k, σ, h => by
    have : ¬ mayF p σ := fun q => by
      obtain ⟨h1, h2, h3⟩ := opn_free hp q
      omega
    rw [dsF_no this, dsF_no this]
  | n + 1, k, σ, h => by
    rw [show n + 1 + k = (n + k) + 1 by omega]
    unfold dsF
    split
    · rename_i e
      obtain ⟨h1, h2, h3⟩ := opn_free hp e
      exact dsF_more hp n k _ (by omega)
    · rfl
theorem M_doors {p : Nat → Nat} (hp : PI p) (v : Int32) : ∀ (n fu : Nat) (σ : Nat → Nat) (m : fm_M), hc σ 18 0 (p 1) ≤ n → n < fu → RM p σ m → HI p σ → ∃ m', fm_it (fun (yy : fm_M) => f_X9_goes_29 v yy) fu m = some m' ∧ RM p (dsF p n σ) m' ∧ FM m m' := by
  have hp0 := hp.2.2.1
  have hp1 := hp.2.2.2.2.1
  have no : ∀ (n fu : Nat) (σ : Nat → Nat) (m : fm_M), n < fu → RM p σ m → HI p σ → ¬ mayF p σ → ∃ m', fm_it (fun (yy : fm_M) => f_X9_goes_29 v yy) fu m = some m' ∧ RM p (dsF p n σ) m' ∧ FM m m' := by
    intro n fu σ m hf hR hH e
    obtain ⟨fu, rfl⟩ : ∃ k, fu = k + 1 := ⟨fu - 1, by omega⟩
    refine ⟨m, ?_, by rw [dsF_no e]; exact hR, FM.rf m⟩
    have hm := M_mayOpen hp hR hH
    rw [decide_eq_false e] at hm
    unfold fm_it f_X9_goes_29
    simp only [hm, bd_s, bI, Bool.false_eq_true, if_false, if_true]
  intro n
  induction n with
  | zero =>
    intro fu σ m h0 hf hR hH
    exact no 0 fu σ m hf hR hH (fun q => by obtain ⟨h1, -⟩ := opn_free hp q; omega)
  | succ n ih =>
    intro fu σ m h0 hf hR hH
    by_cases e : mayF p σ
    · obtain ⟨h1, h2, h3⟩ := opn_free hp e
      obtain ⟨m1, g1, g2, g3⟩ := M_opens hp hR hH h2
      obtain ⟨fu, rfl⟩ : ∃ k, fu = k + 1 := ⟨fu - 1, by omega⟩
      obtain ⟨m', k1, k2, k3⟩ := ih fu (opnF p σ (highF σ (p 1) - 1)) m1 (by omega) (by omega) g2 (HI_opn hp hH h2)
      refine ⟨m', ?_, by rw [dsF, if_pos e]; exact k2, g3.tr k3⟩
      have hm := M_mayOpen hp hR hH
      rw [decide_eq_true e] at hm
      have hh := M_highestFree hp hR hH
      unfold enH at hh
      rw [if_pos e.1] at hh
      have hb : f_X9_goes_29 v m = some (.inl m1) := by
        unfold f_X9_goes_29
        rw [bd_some hm, if_neg (by decide), bd_some hh, bd_some g1]
      unfold fm_it
      rw [hb]
      exact k1
    · exact no (n + 1) fu σ m hf hR hH e
def nxF (p ρ σ : Nat → Nat) : Nat → Nat := paF p (trF p ρ (dsF p 3 σ) (p 1))
def nxB (p ρ σ : Nat → Nat) : Nat := paB p (trF p ρ (dsF p 3 σ) (p 1))
def goF (p ρ : Nat → Nat) : Nat → (Nat → Nat) → Nat → Nat → Option (Nat × Nat)
  | 0, _, _, _ => none
  | k + 1, σ, g, b => if hc (dsF p 3 σ) 0 3 (p 0) = p 0 then some (g, b) else goF p ρ k (nxF p ρ σ) (g + 1) (b + nxB p ρ σ)
theorem HI_nx {p ρ σ : Nat → Nat} (hp : PI p) (hρ : RO p ρ) (hH : HI p σ) (h28 : σ 28 < 2000) : HI p (nxF p ρ σ) ∧ nxF p ρ σ 28 = σ 28 + 1 := by
  obtain ⟨h1, h2⟩ := HI_ds hp 3 σ hH
  obtain ⟨h3, h4⟩ := HI_tr hp hρ h1 (p 1) (Nat.le_refl _)
  unfold nxF
  exact ⟨HI_pa hp h3 (by omega), by rw [paF_28, h4, h2]⟩
def GF (m m' : fm_M) : Prop := (∀ c, ¬ c = 4 → ¬ c = 0 → m' c = m c) ∧ ∀ k, ¬ k = 14 → m' 0 k = m 0 k
theorem GF.rf (m : fm_M) : GF m m := ⟨fun _ _ _ => rfl, fun _ _ => rfl⟩
theorem GF.tr {a b c : fm_M} (h1 : GF a b) (h2 : GF b c) : GF a c := ⟨fun k hk h0 => (h2.1 k hk h0).trans (h1.1 k hk h0), fun k hk => (h2.2 k hk).trans (h1.2 k hk)⟩
theorem FM.g {m m' : fm_M} (h : FM m m') : GF m m' := ⟨fun c h4 _ => h c h4, fun k _ => by rw [h 0 (by omega)]⟩
theorem GF.up (m : fm_M) (v : Int32) : GF m (fm_up m 0 14 v) := ⟨fun _ _ h0 => m_up_ne h0, fun k hk => by rw [m_up_eq, m_upd_ne hk]⟩
theorem RM.up0 {p σ : Nat → Nat} {m : fm_M} (h : RM p σ m) (k : Nat) (v : Int32) : RM p σ (fm_up m 0 k v) := ⟨fun j hj => by rw [m_up_ne (by omega)]; exact h.1 j hj, fun j hj => by rw [m_up_ne (by omega)]; exact h.2 j hj⟩
theorem M_goesL {p ρ : Nat → Nat} (hp : PI p) (hρ : RO p ρ) (mi0 : Nat) : ∀ (k fu : Nat) (σ : Nat → Nat) (m : fm_M) (g b : Nat), k < fu → (σ 28 + k = p 4 + 1 ∨ (k = 0 ∧ p 4 < σ 28)) → RM p σ m → HI p σ → RR p ρ m → m 0 14 = nI b → σ 28 = mi0 + g →
    ∃ q, fm_it (fun (yy : fm_M) => f_X9_goes_13 (nI mi0) yy) fu m = some q ∧ ((∃ g' b' m', goF p ρ k σ g b = some (g', b') ∧ q = .inl (nI g', m') ∧ m' 0 14 = nI b' ∧ GF m m') ∨ (∃ m', goF p ρ k σ g b = none ∧ q = .inr m' ∧ GF m m')) := by
  have hp0 := hp.2.2.1
  have hp1 := hp.2.2.2.2.1
  have hp4 := hp.2.2.2.2.2.2.2.2.2.2.1
  intro k
  induction k with
  | zero =>
    intro fu σ m g b hf hk hR hH hm h14 h28
    obtain ⟨fu, rfl⟩ : ∃ j, fu = j + 1 := ⟨fu - 1, by omega⟩
    have a4 := hR.1 4 (by omega)
    have c28 := hR.2 28 (by omega)
    have d28 := hH.2.2.2.2.2
    refine ⟨.inr m, ?_, Or.inr ⟨m, rfl, rfl, GF.rf m⟩⟩
    have hb : f_X9_goes_13 (nI mi0) m = some (.inr (.inr m)) := by
      unfold f_X9_goes_13
      simp (disch := omega) only [zl0, zl1, zl2, zl3, zl4, zl5, zl6, zl7, zl8, zl9, zl10, zl11, zl12, zl13, zl17, zl18, zl19, zl20, zl21, zl22, zl23, zl24, zl25, zl26, zl27, zl28, zl29, zl31, zl32, zl40, zl42, zl44, zl48, zl50, zl57, zl58, zl59, zl60, zl65, zl97, zl98, zl99, zl100, zl103, zl104, zl108, zl119, zl126, zl200, zl203, zl255, zl999, zl9999, zl720, zl232, z_add, z_le, z_lt, z_eq, z_clamp, z_in, z_m4, z_m4n, z_m1n, z_b0, z_b1, m_up_eq, m_up_ne, m_upd_eq, m_upd_ne, bd_s, op_s2, Bool.false_eq_true, eq_self, if_true, if_false, if_pos, if_neg, a4, c28]
    unfold fm_it
    rw [hb]
  | succ k ih =>
    intro fu σ m g b hf hk hR hH hm h14 h28
    obtain ⟨fu, rfl⟩ : ∃ j, fu = j + 1 := ⟨fu - 1, by omega⟩
    have a4 := hR.1 4 (by omega)
    have c28 := hR.2 28 (by omega)
    have d28 := hH.2.2.2.2.2
    obtain ⟨m1, g1, g2, g3⟩ := M_doors hp (nI mi0) 3 fm_fu σ m (Nat.le_trans (hc_le _ _ _ _) hp1) (by unfold fm_fu; omega) hR hH
    obtain ⟨hH1, e28⟩ := HI_ds hp 3 σ hH
    have a0 := g2.1 0 (by omega)
    have b28 := g2.2 28 (by omega)
    rw [e28] at b28
    have hl := hc_le (dsF p 3 σ) 0 3 (p 0)
    have hch : f_X9_children (nI 3) m1 = some (nI (hc (dsF p 3 σ) 0 3 (p 0)), m1) := M_children hp g2 hH1 3 (by omega)
    by_cases e : hc (dsF p 3 σ) 0 3 (p 0) = p 0
    · refine ⟨.inl (nI g, m1), ?_, Or.inl ⟨g, b, m1, by rw [goF, if_pos e], rfl, by rw [g3 0 (by omega)]; exact h14, g3.g⟩⟩
      have hb : f_X9_goes_13 (nI mi0) m = some (.inr (.inl (nI g, m1))) := by
        unfold f_X9_goes_13
        simp (disch := omega) only [zl0, zl1, zl2, zl3, zl4, zl5, zl6, zl7, zl8, zl9, zl10, zl11, zl12, zl13, zl17, zl18, zl19, zl20, zl21, zl22, zl23, zl24, zl25, zl26, zl27, zl28, zl29, zl31, zl32, zl40, zl42, zl44, zl48, zl50, zl57, zl58, zl59, zl60, zl65, zl97, zl98, zl99, zl100, zl103, zl104, zl108, zl119, zl126, zl200, zl203, zl255, zl999, zl9999, zl720, zl232, z_add, z_le, z_lt, z_eq, z_clamp, z_in, z_m4, z_m4n, z_m1n, z_b0, z_b1, m_up_eq, m_up_ne, m_upd_eq, m_upd_ne, bd_s, op_s2, Bool.false_eq_true, eq_self, if_true, if_false, if_pos, if_neg, a4, c28, g1, hch, a0, b28, z_sub]
        rw [show σ 28 - mi0 = g by omega]
      unfold fm_it
      rw [hb]
    · obtain ⟨hH2, f28⟩ := HI_tr hp hρ hH1 (p 1) (Nat.le_refl _)
      obtain ⟨m2, k1, k2, k3⟩ := M_takesRow hp g2 hH1 hρ (hm.fm g3)
      obtain ⟨m3, l1, l2, l3⟩ := M_passes hp k2 hH2
      have hHn := HI_nx hp hρ hH (by omega)
      have f14 : m2 0 14 = nI b := by rw [k3 0 (by omega), g3 0 (by omega)]; exact h14
      have hRn : RM p (nxF p ρ σ) (fm_up m3 0 14 (nI (b + nxB p ρ σ))) := l2.up0 _ _
      have hmn : RR p ρ (fm_up m3 0 14 (nI (b + nxB p ρ σ))) := fun j hj => by
        rw [m_up_ne (by omega), l3 9 (by omega), k3 9 (by omega), g3 9 (by omega)]
        exact hm j hj
      obtain ⟨q, q1, q2⟩ := ih fu (nxF p ρ σ) (fm_up m3 0 14 (nI (b + nxB p ρ σ))) (g + 1) (b + nxB p ρ σ) (by omega) (by rw [hHn.2]; omega) hRn hHn.1 hmn (by rw [m_up_eq, m_upd_eq]) (by rw [hHn.2]; omega)
      have hb : f_X9_goes_13 (nI mi0) m = some (.inl (fm_up m3 0 14 (nI (b + nxB p ρ σ)))) := by
        unfold f_X9_goes_13
        simp (disch := omega) only [zl0, zl1, zl2, zl3, zl4, zl5, zl6, zl7, zl8, zl9, zl10, zl11, zl12, zl13, zl17, zl18, zl19, zl20, zl21, zl22, zl23, zl24, zl25, zl26, zl27, zl28, zl29, zl31, zl32, zl40, zl42, zl44, zl48, zl50, zl57, zl58, zl59, zl60, zl65, zl97, zl98, zl99, zl100, zl103, zl104, zl108, zl119, zl126, zl200, zl203, zl255, zl999, zl9999, zl720, zl232, z_add, z_le, z_lt, z_eq, z_clamp, z_in, z_m4, z_m4n, z_m1n, z_b0, z_b1, m_up_eq, m_up_ne, m_upd_eq, m_upd_ne, bd_s, op_s2, Bool.false_eq_true, eq_self, if_true, if_false, if_pos, if_neg, a4, c28, g1, hch, a0, b28, k1, l1, f14]
        rfl
      have hG : GF m (fm_up m3 0 14 (nI (b + nxB p ρ σ))) := ((g3.g.tr k3.g).tr l3.g).tr (GF.up _ _)
      refine ⟨q, by unfold fm_it; rw [hb]; exact q1, ?_⟩
      rw [goF, if_neg e]
      rcases q2 with ⟨g', b', m', r1, r2, r3, r4⟩ | ⟨m', r1, r2, r4⟩
      · exact Or.inl ⟨g', b', m', r1, r2, r3, hG.tr r4⟩
      · exact Or.inr ⟨m', r1, r2, hG.tr r4⟩
/-- how it goes on from σ by the row ρ -/
def goR (p ρ σ : Nat → Nat) : Option (Nat × Nat) := goF p ρ (p 4 + 1 - σ 28) σ 0 0
theorem M_goes {p ρ σ : Nat → Nat} {m : fm_M} (hp : PI p) (hρ : RO p ρ) (hR : RM p σ m) (hH : HI p σ) (hm : RR p ρ m) : (∃ g b m', goR p ρ σ = some (g, b) ∧ f_X9_goes m = some (nI g, m') ∧ m' 0 14 = nI b ∧ GF m m') ∨ (∃ m', goR p ρ σ = none ∧ f_X9_goes m = some (-4, m') ∧ GF m m') := by
  have hp4 := hp.2.2.2.2.2.2.2.2.2.2.1
  have c28 := hR.2 28 (by omega)
  have d28 := hH.2.2.2.2.2
  obtain ⟨q, h1, h2⟩ := M_goesL hp hρ (σ 28) (p 4 + 1 - σ 28) fm_fu σ (fm_up m 0 14 (nI 0)) 0 0 (by unfold fm_fu; omega) (by omega) (hR.up0 _ _) hH (fun j hj => by rw [m_up_ne (by omega)]; exact hm j hj) (by rw [m_up_eq, m_upd_eq]) (by omega)
  have hb : f_X9_goes m = Sum.elim (fun r => some r) (fun t => some ((-4 : Int32), t)) q := by
    unfold f_X9_goes
    simp (disch := omega) only [zl0, zl1, zl2, zl3, zl4, zl5, zl6, zl7, zl8, zl9, zl10, zl11, zl12, zl13, zl17, zl18, zl19, zl20, zl21, zl22, zl23, zl24, zl25, zl26, zl27, zl28, zl29, zl31, zl32, zl40, zl42, zl44, zl48, zl50, zl57, zl58, zl59, zl60, zl65, zl97, zl98, zl99, zl100, zl103, zl104, zl108, zl119, zl126, zl200, zl203, zl255, zl999, zl9999, zl720, zl232, z_add, z_le, z_lt, z_eq, z_clamp, z_in, z_m4, z_m4n, z_m1n, z_b0, z_b1, m_up_eq, m_up_ne, m_upd_eq, m_upd_ne, bd_s, op_s2, Bool.false_eq_true, eq_self, if_true, if_false, if_pos, if_neg, c28, h1]
  rcases h2 with ⟨g', b', m', r1, r2, r3, r4⟩ | ⟨m', r1, r2, r4⟩
  · subst r2
    exact Or.inl ⟨g', b', m', r1, by rw [hb]; rfl, r3, (GF.up _ _).tr r4⟩
  · subst r2
    exact Or.inr ⟨m', r1, by rw [hb]; rfl, (GF.up _ _).tr r4⟩
