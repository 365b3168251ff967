/-! a minute keeps what is true -/
theorem HI_ext {p σ τ : Nat → Nat} (hp : PI p) (e : ∀ j, j < 29 → σ j = τ j) (hH : HI p σ) : HI p τ := by
  obtain ⟨p1, p2, p3, p4, p5, -⟩ := hp
  obtain ⟨h1, h2, h3, h4, h5, h6⟩ := hH
  refine ⟨fun j hj => by rw [← e j hj]; exact h1 j hj, fun k hk => ?_, fun v hv => ?_, fun u v hu hv huv => ?_, ?_, ?_⟩
  · rw [← e k (by omega), ← e (6 + k) (by omega), ← e (12 + k) (by omega), ← e 28 (by omega)]; exact h2 k hk
  · rw [← e (18 + v) (by omega), ← e (21 + v) (by omega), ← e (24 + v) (by omega)]
    have h7 := h3 v hv
    refine ⟨h7.1, h7.2.1, fun q => ?_, h7.2.2.2⟩
    have h8 := h7.2.2.1 q
    rw [← e (σ (24 + v)) (by omega)]
    exact h8
  · rw [← e (18 + u) (by omega), ← e (18 + v) (by omega), ← e (24 + u) (by omega), ← e (24 + v) (by omega)]
    exact h4 u v hu hv huv
  · rw [← e 27 (by omega)]; exact h5
  · rw [← e 28 (by omega)]; exact h6
theorem HI_fin {p σ : Nat → Nat} (hp : PI p) (hH : HI p σ) {w : Nat} (hw : w < p 1) (h1w : σ (18 + w) = 1) : HI p (begF (un σ (σ (24 + w)) 2) w 0 0 0) := by
  obtain ⟨p1, p2, p3, p4, p5, p6, p7, p8, p9, p10, p11, p12⟩ := hp
  obtain ⟨h1, h2, h3, h4, h5, h6⟩ := hH
  have hw1 := (h3 w hw).2.2.1 h1w
  obtain ⟨c, hcd⟩ : ∃ c, c = σ (24 + w) := ⟨_, rfl⟩
  rw [← hcd] at hw1 ⊢
  have v18 : begF (un σ c 2) w 0 0 0 (18 + w) = 0 := by unfold begF; rw [un_ne (by omega), un_ne (by omega), un_eq]
  have v21 : begF (un σ c 2) w 0 0 0 (21 + w) = 0 := by unfold begF; rw [un_ne (by omega), un_eq]
  have v24 : begF (un σ c 2) w 0 0 0 (24 + w) = 0 := by unfold begF; rw [un_eq]
  have vc : begF (un σ c 2) w 0 0 0 c = 2 := by unfold begF; rw [un_ne (by omega), un_ne (by omega), un_ne (by omega), un_eq]
  have vo : ∀ j, ¬ j = 18 + w → ¬ j = 21 + w → ¬ j = 24 + w → ¬ j = c → begF (un σ c 2) w 0 0 0 j = σ j := fun j a b d e => by unfold begF; rw [un_ne d, un_ne b, un_ne a, un_ne e]
  refine ⟨fun j hj => ?_, fun k hk => ?_, fun v hv => ?_, fun u v hu hv huv => ?_, ?_, ?_⟩
  · by_cases a : j = 18 + w
    · subst a; rw [v18]; omega
    by_cases b : j = 21 + w
    · subst b; rw [v21]; omega
    by_cases d : j = 24 + w
    · subst d; rw [v24]; omega
    by_cases e : j = c
    · subst e; rw [vc]; omega
    rw [vo j a b d e]; exact h1 j hj
  · have := h2 k hk
    rw [vo (6 + k) (by omega) (by omega) (by omega) (by omega), vo (12 + k) (by omega) (by omega) (by omega) (by omega), vo 28 (by omega) (by omega) (by omega) (by omega)]
    by_cases e : k = c
    · subst e
      rw [vc]
      exact ⟨by omega, fun q => by omega, this.2.2⟩
    · rw [vo k (by omega) (by omega) (by omega) e]; exact this
  · have hv3 := h3 v hv
    by_cases e : v = w
    · subst e
      rw [v18, v21, v24]
      exact ⟨by omega, fun _ => rfl, fun q => by omega, fun q => by omega⟩
    · rw [vo (18 + v) (by omega) (by omega) (by omega) (by omega), vo (21 + v) (by omega) (by omega) (by omega) (by omega), vo (24 + v) (by omega) (by omega) (by omega) (by omega)]
      refine ⟨hv3.1, hv3.2.1, fun q => ?_, hv3.2.2.2⟩
      have h7 := hv3.2.2.1 q
      refine ⟨h7.1, h7.2.1, h7.2.2.1, ?_⟩
      rw [vo (σ (24 + v)) (by omega) (by omega) (by omega) (fun z => h4 v w hv hw e q h1w (by rw [z, hcd]))]
      exact h7.2.2.2
  · by_cases e : u = w
    · subst e; rw [v18]; intro q; omega
    · by_cases e2 : v = w
      · subst e2; rw [v18]; intro _ q; omega
      · rw [vo (18 + u) (by omega) (by omega) (by omega) (by omega), vo (24 + u) (by omega) (by omega) (by omega) (by omega), vo (18 + v) (by omega) (by omega) (by omega) (by omega), vo (24 + v) (by omega) (by omega) (by omega) (by omega)]
        exact h4 u v hu hv huv
  · rw [vo 27 (by omega) (by omega) (by omega) (by omega)]; exact h5
  · rw [vo 28 (by omega) (by omega) (by omega) (by omega)]; exact h6
theorem HI_27 {p σ : Nat → Nat} (hp : PI p) (hH : HI p σ) : HI p (un σ 27 1) := by
  obtain ⟨p1, p2, p3, p4, p5, -⟩ := hp
  obtain ⟨h1, h2, h3, h4, h5, h6⟩ := hH
  have vo : ∀ j, ¬ j = 27 → un σ 27 1 j = σ j := fun j a => un_ne a
  refine ⟨fun j hj => ?_, fun k hk => ?_, fun v hv => ?_, fun u v hu hv huv => ?_, ?_, ?_⟩
  · by_cases a : j = 27
    · subst a; rw [un_eq]; omega
    · rw [vo j a]; exact h1 j hj
  · rw [vo k (by omega), vo (6 + k) (by omega), vo (12 + k) (by omega), vo 28 (by omega)]; exact h2 k hk
  · rw [vo (18 + v) (by omega), vo (21 + v) (by omega), vo (24 + v) (by omega)]
    have h7 := h3 v hv
    refine ⟨h7.1, h7.2.1, fun q => ?_, h7.2.2.2⟩
    have h8 := h7.2.2.1 q
    rw [vo (σ (24 + v)) (by omega)]
    exact h8
  · rw [vo (18 + u) (by omega), vo (18 + v) (by omega), vo (24 + u) (by omega), vo (24 + v) (by omega)]
    exact h4 u v hu hv huv
  · rw [un_eq]; omega
  · rw [vo 28 (by omega)]; exact h6
theorem HI_wo1 {p σ : Nat → Nat} (hp : PI p) (hH : HI p σ) {w : Nat} (hw : w < p 1) : HI p (wo1 σ w) := by
  have hw3 := hp.2.2.2.2.1
  have hwi := hH.2.2.1 w hw
  unfold wo1
  by_cases a : σ (21 + w) = 0
  · rw [if_pos a]; exact hH
  · rw [if_neg a]
    by_cases b : σ (21 + w) = 1
    · rw [if_pos b]
      by_cases d : σ (18 + w) = 1
      · rw [if_pos d]
        have h6 := HI.inH hp hH w hw d
        refine HI_ext hp (fun j hj => ?_) (HI_fin hp hH hw d)
        unfold begF
        by_cases e1 : j = 24 + w
        · subst e1; rw [un_eq, un_eq]
        rw [un_ne e1, un_ne e1]
        by_cases e2 : j = 21 + w
        · subst e2; rw [un_eq, un_eq]
        rw [un_ne e2, un_ne e2]
        by_cases e3 : j = 18 + w
        · subst e3; rw [un_eq, un_eq]
        rw [un_ne e3, un_ne e3]
        by_cases e4 : j = σ (24 + w)
        · subst e4; rw [un_eq, un_eq]
        rw [un_ne e4, un_ne e4, un_ne e2]
      · rw [if_neg d]
        refine HI_ext hp (fun j hj => ?_) (HI_beg hp (HI_27 hp hH) (how := 0) (k := 0) hw (by omega) (by omega) (by omega) (fun _ => rfl) (by omega))
        unfold begF
        by_cases e1 : j = 24 + w
        · subst e1; rw [un_eq, un_eq]
        rw [un_ne e1, un_ne e1]
        by_cases e2 : j = 21 + w
        · subst e2; rw [un_eq, un_eq]
        rw [un_ne e2, un_ne e2]
        by_cases e3 : j = 18 + w
        · subst e3; rw [un_eq, un_eq]
        rw [un_ne e3, un_ne e3]
        by_cases e4 : j = 27
        · subst e4; rw [un_eq, un_eq]
        rw [un_ne e4, un_ne e4, un_ne e2]
    · rw [if_neg b]
      obtain ⟨p1, p2, p3, p4, p5, -⟩ := hp
      obtain ⟨h1, h2, h3, h4, h5, h6⟩ := hH
      have vo : ∀ j, ¬ j = 21 + w → un σ (21 + w) (σ (21 + w) - 1) j = σ j := fun j a => un_ne a
      have h21 := h1 (21 + w) (by omega)
      refine ⟨fun j hj => ?_, fun k hk => ?_, fun v hv => ?_, fun u v hu hv huv => ?_, ?_, ?_⟩
      · by_cases a : j = 21 + w
        · subst a; rw [un_eq]; omega
        · rw [vo j a]; exact h1 j hj
      · rw [vo k (by omega), vo (6 + k) (by omega), vo (12 + k) (by omega), vo 28 (by omega)]; exact h2 k hk
      · have h7 := h3 v hv
        rw [vo (18 + v) (by omega), vo (24 + v) (by omega)]
        by_cases e : v = w
        · subst e
          rw [un_eq]
          refine ⟨h7.1, fun q => by have := h7.2.1 q; omega, fun q => ?_, fun q => ?_⟩
          · have h8 := h7.2.2.1 q
            rw [vo (σ (24 + v)) (by omega)]
            exact ⟨by omega, by omega, h8.2.2⟩
          · have h8 := h7.2.2.2 q
            omega
        · rw [vo (21 + v) (by omega)]
          refine ⟨h7.1, h7.2.1, fun q => ?_, h7.2.2.2⟩
          have h8 := h7.2.2.1 q
          rw [vo (σ (24 + v)) (by omega)]
          exact h8
      · rw [vo (18 + u) (by omega), vo (18 + v) (by omega), vo (24 + u) (by omega), vo (24 + v) (by omega)]
        exact h4 u v hu hv huv
      · rw [vo 27 (by omega)]; exact h5
      · rw [vo 28 (by omega)]; exact h6
theorem HI_woF {p σ : Nat → Nat} (hp : PI p) (hH : HI p σ) : ∀ i, i ≤ p 1 → HI p (woF σ i)
  | 0, _ => hH
  | i + 1, h => HI_wo1 hp (HI_woF hp hH i (by omega)) (by omega)
theorem un_comm {f : Nat → Nat} {a b x y : Nat} (h : ¬ a = b) : un (un f a x) b y = un (un f b y) a x := by
  funext j
  by_cases e1 : j = b
  · subst e1; rw [un_eq, un_ne (fun q => h q.symm), un_eq]
  · rw [un_ne e1]
    by_cases e2 : j = a
    · subst e2; rw [un_eq, un_eq]
    · rw [un_ne e2, un_ne e2, un_ne e1]
theorem wo1_28 {τ : Nat → Nat} {w x : Nat} (hw : w < 3) (hc : τ (18 + w) = 1 → τ (24 + w) < 6) : wo1 (un τ 28 x) w = un (wo1 τ w) 28 x := by
  unfold wo1 begF
  rw [un_ne (show ¬ 21 + w = 28 by omega), un_ne (show ¬ 18 + w = 28 by omega), un_ne (show ¬ 24 + w = 28 by omega)]
  by_cases a : τ (21 + w) = 0
  · rw [if_pos a, if_pos a]
  · rw [if_neg a, if_neg a]
    by_cases b : τ (21 + w) = 1
    · rw [if_pos b, if_pos b]
      by_cases d : τ (18 + w) = 1
      · have := hc d
        rw [if_pos d, if_pos d, un_comm (a := 28) (b := 21 + w) (by omega), un_comm (a := 28) (b := τ (24 + w)) (by omega), un_comm (a := 28) (b := 18 + w) (by omega), un_comm (a := 28) (b := 21 + w) (by omega), un_comm (a := 28) (b := 24 + w) (by omega)]
      · rw [if_neg d, if_neg d, un_comm (a := 28) (b := 21 + w) (by omega), un_comm (a := 28) (b := 27) (by omega), un_comm (a := 28) (b := 18 + w) (by omega), un_comm (a := 28) (b := 21 + w) (by omega), un_comm (a := 28) (b := 24 + w) (by omega)]
    · rw [if_neg b, if_neg b, un_comm (a := 28) (b := 21 + w) (by omega)]
theorem woF_28 {τ : Nat → Nat} {n x : Nat} (hn : n ≤ 3) (hc : ∀ w, w < n → τ (18 + w) = 1 → τ (24 + w) < 6) : ∀ i, i ≤ n → woF (un τ 28 x) i = un (woF τ i) 28 x
  | 0, _ => rfl
  | i + 1, h => by
    have kk := woF_keep hn hc i (by omega)
    rw [woF, woF_28 hn hc i (by omega), wo1_28 (by omega) (by
      rw [kk (18 + i) (by omega) (by omega) (fun u hu => ⟨by omega, by omega, by omega⟩), kk (24 + i) (by omega) (by omega) (fun u hu => ⟨by omega, by omega, by omega⟩)]
      exact hc i (by omega))]
    rfl
theorem HI_pa {p σ : Nat → Nat} (hp : PI p) (hH : HI p σ) (h28 : σ 28 < 2000) : HI p (paF p σ) := by
  have hp0 := hp.2.2.1
  have hp1 := hp.2.2.2.2.1
  unfold paF
  rw [← woF_28 hp1 (fun w hw h => by
    rw [heF_hi hp0 (by omega)] at h ⊢
    exact HI.inH hp hH w hw h) _ (Nat.le_refl _)]
  exact HI_woF hp (HI_he hp hH h28) _ (Nat.le_refl _)
theorem paF_28 {p σ : Nat → Nat} : paF p σ 28 = σ 28 + 1 := by unfold paF; rw [un_eq]
theorem drF_28 {p σ : Nat → Nat} {w c : Nat} (hw : w < 3) (hc : c < 6) : drF p σ w c 28 = σ 28 := by
  unfold drF begF
  rw [un_ne (by omega), un_ne (by omega), un_ne (by omega), un_ne (by omega)]
theorem opnF_28 {p σ : Nat → Nat} {w : Nat} (hp : p 0 ≤ 6) (hw : w < 3) : opnF p σ w 28 = σ 28 := by
  unfold opnF begF
  rw [un_ne (by omega), un_ne (by omega), un_ne (by omega), opF_hi hp (by omega)]
/-- a row of all children: each place holds one -/
def RO (p ρ : Nat → Nat) : Prop := ∀ k, k < p 0 → ρ k < p 0
theorem HI_tr {p ρ σ : Nat → Nat} (hp : PI p) (hρ : RO p ρ) (hH : HI p σ) : ∀ i, i ≤ p 1 → HI p (trF p ρ σ i) ∧ trF p ρ σ i 28 = σ 28
  | 0, _ => ⟨hH, rfl⟩
  | i + 1, h => by
    obtain ⟨h1, h2⟩ := HI_tr hp hρ hH i (by omega)
    have hp0 := hp.2.2.1
    have hp1 := hp.2.2.2.2.1
    unfold trF
    split
    · rename_i e
      have hs := (fbF_spec (trF p ρ σ i) ρ (p 0)).2.1 e.2
      have hr := hρ _ e.2
      exact ⟨HI_dr hp h1 (by omega) e.1 hr hs, by rw [drF_28 (by omega) (by omega)]; exact h2⟩
    · exact ⟨h1, h2⟩
