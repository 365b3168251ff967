/-! the door, dressing by a row; what stays true -/
/-- one above the first hottest child that is ready (0: none) -/
def hoF (σ : Nat → Nat) : Nat → Nat
  | 0 => 0
  | n + 1 => if σ n = 2 ∧ (hoF σ n = 0 ∨ σ (6 + (hoF σ n - 1)) < σ (6 + n)) then n + 1 else hoF σ n
theorem hoF_le (σ : Nat → Nat) : ∀ n, hoF σ n ≤ n ∧ (0 < hoF σ n → σ (hoF σ n - 1) = 2)
  | 0 => ⟨Nat.le_refl 0, fun h => by simp [hoF] at h⟩
  | n + 1 => by
    obtain ⟨h1, h2⟩ := hoF_le σ n
    unfold hoF
    split
    · rename_i h
      exact ⟨by omega, fun _ => by simpa using h.1⟩
    · exact ⟨by omega, h2⟩
theorem hoF_none {σ : Nat → Nat} : ∀ {n : Nat}, hoF σ n = 0 → ∀ c, c < n → ¬ σ c = 2
  | 0, _, c, h => by omega
  | n + 1, h, c, hc => by
    unfold hoF at h
    split at h
    · omega
    · rename_i q
      rcases (show c < n ∨ c = n by omega) with e | e
      · exact hoF_none h c e
      · subst e
        exact fun z => q ⟨z, Or.inl h⟩
def enO (σ : Nat → Nat) (n : Nat) : Int32 := if hoF σ n = 0 then -4 else nI (hoF σ n - 1)
def opo (σ : Nat → Nat) (n : Nat) : Nat → Nat := if hoF σ n = 0 then σ else un (un σ (hoF σ n - 1) 3) (6 + (hoF σ n - 1)) 0
def opF (σ : Nat → Nat) (n : Nat) : Nat → Nat → Nat
  | 0 => σ
  | i + 1 => opo (opF σ n i) n
def opb (σ : Nat → Nat) (n : Nat) : Nat → Int32
  | 0 => 0
  | i + 1 => if hoF (opF σ n i) n = 0 then opb σ n i else opb σ n i ||| ((1 : Int32) <<< (nI (hoF (opF σ n i) n - 1) &&& 31))
def opM (p σ : Nat → Nat) : Nat := if p 1 - hc σ 18 3 (p 1) = 1 then 6 else p 3
def opnF (p σ : Nat → Nat) (w : Nat) : Nat → Nat := begF (opF σ (p 0) (opM p σ)) w 3 0 0
def opnB (p σ : Nat → Nat) : Int32 := opb σ (p 0) (opM p σ)
abbrev mayF (p σ : Nat → Nat) : Prop := 0 < highF σ (p 1) ∧ ((p 3 ≤ hc σ 0 2 (p 0) ∧ 1 < p 1 - hc σ 18 3 (p 1)) ∨ (0 < hc σ 0 2 (p 0) ∧ hc σ 0 2 (p 0) + hc σ 0 3 (p 0) = p 0))
/-- the first bare child's place in the row ρ (n: none) -/
def fbF (σ ρ : Nat → Nat) (n : Nat) : Nat := lowF (fun j => σ (ρ (j - 18))) n
theorem fbF_spec (σ ρ : Nat → Nat) (n : Nat) : fbF σ ρ n ≤ n ∧ (fbF σ ρ n < n → σ (ρ (fbF σ ρ n)) = 0) ∧ ∀ v, v < fbF σ ρ n → ¬ σ (ρ v) = 0 := by
  obtain ⟨h1, h2, h3⟩ := lowF_spec (fun j => σ (ρ (j - 18))) n
  refine ⟨h1, fun h => ?_, fun v hv => ?_⟩
  · have := h2 h
    rwa [show 18 + lowF (fun j => σ (ρ (j - 18))) n - 18 = lowF (fun j => σ (ρ (j - 18))) n by omega] at this
  · have := h3 v hv
    rwa [show 18 + v - 18 = v by omega] at this
theorem fbF_one {σ ρ : Nat → Nat} {n k : Nat} (h1 : k < n) (h2 : σ (ρ k) = 0) (h3 : ∀ v, v < k → ¬ σ (ρ v) = 0) : fbF σ ρ n = k := by
  obtain ⟨c1, c2, c3⟩ := fbF_spec σ ρ n
  rcases Nat.lt_trichotomy (fbF σ ρ n) k with q | q | q
  · exact absurd (c2 (by omega)) (h3 _ q)
  · exact q
  · exact absurd h2 (c3 k q)
theorem fbF_no {σ ρ : Nat → Nat} {n : Nat} (h3 : ∀ v, v < n → ¬ σ (ρ v) = 0) : fbF σ ρ n = n := by
  obtain ⟨c1, c2, c3⟩ := fbF_spec σ ρ n
  rcases (show fbF σ ρ n < n ∨ fbF σ ρ n = n by omega) with q | q
  · exact absurd (c2 q) (h3 _ q)
  · exact q
def trF (p ρ σ : Nat → Nat) : Nat → Nat → Nat
  | 0 => σ
  | i + 1 => if trF p ρ σ i (18 + i) = 0 ∧ fbF (trF p ρ σ i) ρ (p 0) < p 0 then drF p (trF p ρ σ i) i (ρ (fbF (trF p ρ σ i) ρ (p 0))) else trF p ρ σ i
-- what stays true
theorem HI_dr {p σ : Nat → Nat} (hp : PI p) (hH : HI p σ) {w c : Nat} (hw : w < p 1) (hf : σ (18 + w) = 0) (hc : c < p 0) (hb : σ c = 0) : HI p (drF p σ w c) := by
  obtain ⟨p1, p2, p3, p4, p5, p6, p7, p8, p9, p10, p11, p12⟩ := hp
  obtain ⟨h1, h2, h3, h4, h5, h6⟩ := hH
  have hm := mins_b (k := p (5 + c)) (la := σ 27) (p12 c hc).2.1 (p12 c hc).2.2
  have hm2 : minsOf p σ c = mins (p (5 + c)) (p (11 + c)) (σ 27) := rfl
  have v18 : drF p σ w c (18 + w) = 1 := by unfold drF begF; rw [un_ne (by omega), un_ne (by omega), un_ne (by omega), un_eq]
  have v21 : drF p σ w c (21 + w) = minsOf p σ c := by unfold drF begF; rw [un_ne (by omega), un_ne (by omega), un_eq]
  have v24 : drF p σ w c (24 + w) = c := by unfold drF begF; rw [un_ne (by omega), un_eq]
  have vc : drF p σ w c c = 1 := by unfold drF; rw [un_eq]
  have vo : ∀ j, ¬ j = 18 + w → ¬ j = 21 + w → ¬ j = 24 + w → ¬ j = c → drF p σ w c j = σ j := fun j a b d e => by unfold drF begF; rw [un_ne e, un_ne d, un_ne b, un_ne a]
  refine ⟨fun j hj => ?_, fun k hk => ?_, fun v hv => ?_, fun u v hu hv huv => ?_, ?_, ?_⟩
  · by_cases a : j = 18 + w
    · subst a; rw [v18]; omega
    by_cases b : j = 21 + w
    · subst b; rw [v21, hm2]; omega
    by_cases d : j = 24 + w
    · subst d; rw [v24]; omega
    by_cases e : j = c
    · subst e; rw [vc]; omega
    rw [vo j a b d e]; exact h1 j hj
  · have := h2 k hk
    rw [vo (6 + k) (by omega) (by omega) (by omega) (by omega), vo (12 + k) (by omega) (by omega) (by omega) (by omega), vo 28 (by omega) (by omega) (by omega) (by omega)]
    by_cases e : k = c
    · subst e
      rw [vc]
      exact ⟨by omega, fun _ => this.2.1 (by omega), this.2.2⟩
    · rw [vo k (by omega) (by omega) (by omega) e]; exact this
  · have hv3 := h3 v hv
    by_cases e : v = w
    · subst e
      rw [v18, v21, v24, vc, hm2]
      exact ⟨by omega, fun q => by omega, fun _ => ⟨by omega, by omega, hc, rfl⟩, fun q => by omega⟩
    · rw [vo (18 + v) (by omega) (by omega) (by omega) (by omega), vo (21 + v) (by omega) (by omega) (by omega) (by omega), vo (24 + v) (by omega) (by omega) (by omega) (by omega)]
      refine ⟨hv3.1, hv3.2.1, fun q => ?_, hv3.2.2.2⟩
      have h7 := hv3.2.2.1 q
      refine ⟨h7.1, h7.2.1, h7.2.2.1, ?_⟩
      by_cases e2 : σ (24 + v) = c
      · rw [e2] at h7; omega
      · rw [vo (σ (24 + v)) (by omega) (by omega) (by omega) e2]; exact h7.2.2.2
  · have key : ∀ v, v < p 1 → ¬ v = w → σ (18 + v) = 1 → ¬ σ (24 + v) = c := fun v hv _ q e => by
      have := ((h3 v hv).2.2.1 q).2.2.2
      rw [e] at this; omega
    by_cases e : u = w
    · subst e
      rw [v18, v24, vo (18 + v) (by omega) (by omega) (by omega) (by omega), vo (24 + v) (by omega) (by omega) (by omega) (by omega)]
      exact fun _ q z => key v hv (Ne.symm huv) q z.symm
    · by_cases e2 : v = w
      · subst e2
        rw [v18, v24, vo (18 + u) (by omega) (by omega) (by omega) (by omega), vo (24 + u) (by omega) (by omega) (by omega) (by omega)]
        exact fun q _ z => key u hu e q z
      · rw [vo (18 + u) (by omega) (by omega) (by omega) (by omega), vo (24 + u) (by omega) (by omega) (by omega) (by omega), vo (18 + v) (by omega) (by omega) (by omega) (by omega), vo (24 + v) (by omega) (by omega) (by omega) (by omega)]
        exact h4 u v hu hv huv
  · rw [vo 27 (by omega) (by omega) (by omega) (by omega)]; exact h5
  · rw [vo 28 (by omega) (by omega) (by omega) (by omega)]; exact h6
theorem HI_beg {p σ : Nat → Nat} (hp : PI p) (hH : HI p σ) {w how k : Nat} (hw : w < p 1) (hf : ¬ how = 1) (h9 : how ≤ 3) (hk : k ≤ 14) (h0 : how = 0 ∨ how = 3 → k = 0) (h2' : how = 2 → 1 ≤ k) : HI p (begF σ w how k 0) := by
  obtain ⟨p1, p2, p3, p4, p5, p6, p7, p8, p9, p10, p11, p12⟩ := hp
  obtain ⟨h1, h2, h3, h4, h5, h6⟩ := hH
  have v18 : begF σ w how k 0 (18 + w) = how := by unfold begF; rw [un_ne (by omega), un_ne (by omega), un_eq]
  have v21 : begF σ w how k 0 (21 + w) = k := by unfold begF; rw [un_ne (by omega), un_eq]
  have v24 : begF σ w how k 0 (24 + w) = 0 := by unfold begF; rw [un_eq]
  have vo : ∀ j, ¬ j = 18 + w → ¬ j = 21 + w → ¬ j = 24 + w → begF σ w how k 0 j = σ j := fun j a b d => by unfold begF; rw [un_ne d, un_ne b, un_ne a]
  refine ⟨fun j hj => ?_, fun c hc => ?_, fun v hv => ?_, fun u v hu hv huv => ?_, ?_, ?_⟩
  · by_cases a : j = 18 + w
    · subst a; rw [v18]; omega
    by_cases b : j = 21 + w
    · subst b; rw [v21]; omega
    by_cases d : j = 24 + w
    · subst d; rw [v24]; omega
    rw [vo j a b d]; exact h1 j hj
  · rw [vo c (by omega) (by omega) (by omega), vo (6 + c) (by omega) (by omega) (by omega), vo (12 + c) (by omega) (by omega) (by omega), vo 28 (by omega) (by omega) (by omega)]
    exact h2 c hc
  · by_cases e : v = w
    · subst e
      rw [v18, v21, v24]
      exact ⟨h9, h0, fun q => absurd q hf, fun q => ⟨h2' q, hk⟩⟩
    · have hv3 := h3 v hv
      rw [vo (18 + v) (by omega) (by omega) (by omega), vo (21 + v) (by omega) (by omega) (by omega), vo (24 + v) (by omega) (by omega) (by omega)]
      refine ⟨hv3.1, hv3.2.1, fun q => ?_, hv3.2.2.2⟩
      have h7 := hv3.2.2.1 q
      rw [vo (σ (24 + v)) (by omega) (by omega) (by omega)]
      exact h7
  · by_cases e : u = w
    · subst e; rw [v18]; exact fun q => absurd q hf
    · by_cases e2 : v = w
      · subst e2; rw [v18]; exact fun _ q => absurd q hf
      · rw [vo (18 + u) (by omega) (by omega) (by omega), vo (24 + u) (by omega) (by omega) (by omega), vo (18 + v) (by omega) (by omega) (by omega), vo (24 + v) (by omega) (by omega) (by omega)]
        exact h4 u v hu hv huv
  · rw [vo 27 (by omega) (by omega) (by omega)]; exact h5
  · rw [vo 28 (by omega) (by omega) (by omega)]; exact h6
theorem HI_out {p σ : Nat → Nat} (hp : PI p) (hH : HI p σ) {c : Nat} (hc : c < p 0) (hr : σ c = 2) : HI p (un (un σ c 3) (6 + c) 0) := by
  obtain ⟨p1, p2, p3, p4, p5, p6, p7, p8, p9, p10, p11, p12⟩ := hp
  obtain ⟨h1, h2, h3, h4, h5, h6⟩ := hH
  have vc : un (un σ c 3) (6 + c) 0 c = 3 := by rw [un_ne (by omega), un_eq]
  have v6 : un (un σ c 3) (6 + c) 0 (6 + c) = 0 := by rw [un_eq]
  have vo : ∀ j, ¬ j = c → ¬ j = 6 + c → un (un σ c 3) (6 + c) 0 j = σ j := fun j a b => by rw [un_ne b, un_ne a]
  refine ⟨fun j hj => ?_, fun k hk => ?_, fun v hv => ?_, fun u v hu hv huv => ?_, ?_, ?_⟩
  · by_cases a : j = c
    · subst a; rw [vc]; omega
    by_cases b : j = 6 + c
    · subst b; rw [v6]; omega
    rw [vo j a b]; exact h1 j hj
  · have := h2 k hk
    rw [vo (12 + k) (by omega) (by omega), vo 28 (by omega) (by omega)]
    by_cases e : k = c
    · subst e
      rw [vc, v6]
      exact ⟨by omega, fun _ => rfl, by omega, this.2.2.2⟩
    · rw [vo k e (by omega), vo (6 + k) (by omega) (by omega)]; exact this
  · have hv3 := h3 v hv
    rw [vo (18 + v) (by omega) (by omega), vo (21 + v) (by omega) (by omega), vo (24 + v) (by omega) (by omega)]
    refine ⟨hv3.1, hv3.2.1, fun q => ?_, hv3.2.2.2⟩
    have h7 := hv3.2.2.1 q
    refine ⟨h7.1, h7.2.1, h7.2.2.1, ?_⟩
    rw [vo (σ (24 + v)) (fun e => by rw [e] at h7; omega) (by omega)]
    exact h7.2.2.2
  · rw [vo (18 + u) (by omega) (by omega), vo (24 + u) (by omega) (by omega), vo (18 + v) (by omega) (by omega), vo (24 + v) (by omega) (by omega)]
    exact h4 u v hu hv huv
  · rw [vo 27 (by omega) (by omega)]; exact h5
  · rw [vo 28 (by omega) (by omega)]; exact h6
theorem HI_opo {p σ : Nat → Nat} (hp : PI p) (hH : HI p σ) : HI p (opo σ (p 0)) := by
  unfold opo
  split
  · exact hH
  · rename_i hne
    obtain ⟨hl, h2r⟩ := hoF_le σ (p 0)
    exact HI_out hp hH (by omega) (h2r (by omega))
theorem HI_opF {p σ : Nat → Nat} (hp : PI p) (hH : HI p σ) : ∀ i, HI p (opF σ (p 0) i)
  | 0 => hH
  | i + 1 => HI_opo hp (HI_opF hp hH i)
theorem opo_hi {σ : Nat → Nat} {n j : Nat} (hn : n ≤ 6) (hj : 12 ≤ j) : opo σ n j = σ j := by
  have := (hoF_le σ n).1
  unfold opo
  split
  · rfl
  · rw [un_ne (by omega), un_ne (by omega)]
theorem opF_hi {σ : Nat → Nat} {n j : Nat} (hn : n ≤ 6) (hj : 12 ≤ j) : ∀ i, opF σ n i j = σ j
  | 0 => rfl
  | i + 1 => by rw [opF, opo_hi hn hj, opF_hi hn hj i]
theorem HI_opn {p σ : Nat → Nat} (hp : PI p) (hH : HI p σ) {w : Nat} (hw : w < p 1) : HI p (opnF p σ w) :=
  HI_beg hp (HI_opF hp hH _) hw (by omega) (by omega) (by omega) (fun _ => rfl) (by omega)
theorem HI_he {p σ : Nat → Nat} (hp : PI p) (hH : HI p σ) (h28 : σ 28 < 2000) : HI p (un (heF p σ (p 0)) 28 (σ 28 + 1)) := by
  obtain ⟨p1, p2, p3, p4, p5, p6, p7, p8, p9, p10, p11, p12⟩ := hp
  obtain ⟨h1, h2, h3, h4, h5, h6⟩ := hH
  have hh : ∀ j, 18 ≤ j → ¬ j = 28 → un (heF p σ (p 0)) 28 (σ 28 + 1) j = σ j := fun j a b => by rw [un_ne b, heF_hi p3 a]
  have v28 : un (heF p σ (p 0)) 28 (σ 28 + 1) 28 = σ 28 + 1 := by rw [un_eq]
  have va : ∀ k, k < p 0 → un (heF p σ (p 0)) 28 (σ 28 + 1) k = if bl p σ k then 0 else σ k := fun k hk => by rw [un_ne (by omega), heF_a p3 (by omega), if_pos hk]
  have vb : ∀ k, k < p 0 → un (heF p σ (p 0)) 28 (σ 28 + 1) (6 + k) = if bl p σ k then 0 else if he p σ k then σ (6 + k) + 1 else σ (6 + k) := fun k hk => by rw [un_ne (by omega), heF_b p3 (by omega), if_pos hk]
  have vc : ∀ k, k < p 0 → un (heF p σ (p 0)) 28 (σ 28 + 1) (12 + k) = if bl p σ k then σ (12 + k) + 1 else σ (12 + k) := fun k hk => by rw [un_ne (by omega), heF_c p3 (by omega), if_pos hk]
  refine ⟨fun j hj => ?_, fun k hk => ?_, fun v hv => ?_, fun u v hu hv huv => ?_, ?_, ?_⟩
  · by_cases a : j = 28
    · subst a; rw [v28]; omega
    · rw [un_ne a]
      have := h1 j hj
      rcases (show j < 6 ∨ (6 ≤ j ∧ j < 12) ∨ (12 ≤ j ∧ j < 18) ∨ 18 ≤ j by omega) with q | q | q | q
      · rw [heF_a p3 q]; split <;> (try split) <;> omega
      · obtain ⟨c, rfl⟩ : ∃ c, j = 6 + c := ⟨j - 6, by omega⟩
        rw [heF_b p3 (by omega)]
        split
        · rename_i hc
          have := h2 c hc
          split
          · omega
          · split <;> omega
        · omega
      · obtain ⟨c, rfl⟩ : ∃ c, j = 12 + c := ⟨j - 12, by omega⟩
        rw [heF_c p3 (by omega)]
        split
        · rename_i hc
          have := h2 c hc
          split <;> omega
        · omega
      · rw [heF_hi p3 q]; exact this
  · have := h2 k hk
    rw [va k hk, vb k hk, vc k hk, v28]
    by_cases e : bl p σ k
    · rw [if_pos e, if_pos e, if_pos e]
      exact ⟨by omega, fun _ => rfl, by omega, by omega⟩
    · rw [if_neg e, if_neg e, if_neg e]
      by_cases e2 : he p σ k
      · rw [if_pos e2]
        have e3 : ¬ p 2 ≤ σ (6 + k) := fun q => e ⟨e2, q⟩
        exact ⟨this.1, fun q => absurd e2.1 q, by omega, by omega⟩
      · rw [if_neg e2]
        exact ⟨this.1, this.2.1, this.2.2.1, by omega⟩
  · have hv3 := h3 v hv
    rw [hh (18 + v) (by omega) (by omega), hh (21 + v) (by omega) (by omega), hh (24 + v) (by omega) (by omega)]
    refine ⟨hv3.1, hv3.2.1, fun q => ?_, hv3.2.2.2⟩
    have h7 := hv3.2.2.1 q
    refine ⟨h7.1, h7.2.1, h7.2.2.1, ?_⟩
    rw [va _ h7.2.2.1, if_neg (fun z => by have := z.1.1; omega)]
    exact h7.2.2.2
  · rw [hh (18 + u) (by omega) (by omega), hh (24 + u) (by omega) (by omega), hh (18 + v) (by omega) (by omega), hh (24 + v) (by omega) (by omega)]
    exact h4 u v hu hv huv
  · rw [hh 27 (by omega) (by omega)]; exact h5
  · rw [v28]; omega
