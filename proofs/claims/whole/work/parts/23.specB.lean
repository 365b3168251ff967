/-! a minute, told by numbers -/
abbrev he (p σ : Nat → Nat) (c : Nat) : Prop := σ c = 2 ∧ (¬ p (5 + c) = 2 ∨ σ 28 % 2 = 0)
abbrev bl (p σ : Nat → Nat) (c : Nat) : Prop := (σ c = 2 ∧ (¬ p (5 + c) = 2 ∨ σ 28 % 2 = 0)) ∧ p 2 ≤ σ (6 + c)
def bc (p σ : Nat → Nat) : Nat → Nat
  | 0 => 0
  | n + 1 => bc p σ n + (if bl p σ n then 1 else 0)
theorem bc_le (p σ : Nat → Nat) : ∀ n, bc p σ n ≤ n
  | 0 => Nat.le_refl 0
  | n + 1 => by
    have := bc_le p σ n
    unfold bc
    split <;> omega
def heF (p σ : Nat → Nat) (i : Nat) : Nat → Nat := fun j => if j < i then (if bl p σ j then 0 else σ j) else if 6 ≤ j ∧ j < 6 + i then (if bl p σ (j - 6) then 0 else if he p σ (j - 6) then σ j + 1 else σ j) else if 12 ≤ j ∧ j < 12 + i then (if bl p σ (j - 12) then σ j + 1 else σ j) else σ j
theorem heF_0 (p σ : Nat → Nat) : heF p σ 0 = σ := by
  funext j
  unfold heF
  rw [if_neg (by omega), if_neg (by omega), if_neg (by omega)]
theorem heF_hi {p σ : Nat → Nat} {i j : Nat} (hi : i ≤ 6) (hj : 18 ≤ j) : heF p σ i j = σ j := by
  unfold heF
  rw [if_neg (by omega), if_neg (by omega), if_neg (by omega)]
theorem heF_a {p σ : Nat → Nat} {i k : Nat} (hi : i ≤ 6) (hk : k < 6) : heF p σ i k = if k < i then (if bl p σ k then 0 else σ k) else σ k := by
  unfold heF
  by_cases h : k < i
  · rw [if_pos h, if_pos h]
  · rw [if_neg h, if_neg (by omega), if_neg (by omega), if_neg h]
theorem heF_b {p σ : Nat → Nat} {i k : Nat} (hi : i ≤ 6) (hk : k < 6) : heF p σ i (6 + k) = if k < i then (if bl p σ k then 0 else if he p σ k then σ (6 + k) + 1 else σ (6 + k)) else σ (6 + k) := by
  unfold heF
  rw [if_neg (by omega)]
  by_cases h : k < i
  · rw [if_pos (by omega), if_pos h, show 6 + k - 6 = k by omega]
  · rw [if_neg (by omega), if_neg (by omega), if_neg h]
theorem heF_c {p σ : Nat → Nat} {i k : Nat} (hi : i ≤ 6) (hk : k < 6) : heF p σ i (12 + k) = if k < i then (if bl p σ k then σ (12 + k) + 1 else σ (12 + k)) else σ (12 + k) := by
  unfold heF
  rw [if_neg (by omega), if_neg (by omega)]
  by_cases h : k < i
  · rw [if_pos (by omega), if_pos h, show 12 + k - 12 = k by omega]
  · rw [if_neg (by omega), if_neg h]
theorem heF_o {p σ : Nat → Nat} {k j : Nat} (hk : k < 6) (h1 : ¬ j = k) (h2 : ¬ j = 6 + k) (h3 : ¬ j = 12 + k) : heF p σ (k + 1) j = heF p σ k j := by
  rcases (show j < 6 ∨ (6 ≤ j ∧ j < 12) ∨ (12 ≤ j ∧ j < 18) ∨ 18 ≤ j by omega) with q | q | q | q
  · rw [heF_a (by omega) q, heF_a (by omega) q]
    by_cases e : j < k
    · rw [if_pos e, if_pos (by omega)]
    · rw [if_neg e, if_neg (by omega)]
  · obtain ⟨c, rfl⟩ : ∃ c, j = 6 + c := ⟨j - 6, by omega⟩
    rw [heF_b (by omega) (by omega), heF_b (by omega) (by omega)]
    by_cases e : c < k
    · rw [if_pos e, if_pos (by omega)]
    · rw [if_neg e, if_neg (by omega)]
  · obtain ⟨c, rfl⟩ : ∃ c, j = 12 + c := ⟨j - 12, by omega⟩
    rw [heF_c (by omega) (by omega), heF_c (by omega) (by omega)]
    by_cases e : c < k
    · rw [if_pos e, if_pos (by omega)]
    · rw [if_neg e, if_neg (by omega)]
  · rw [heF_hi (by omega) q, heF_hi (by omega) q]
def wo1 (σ : Nat → Nat) (w : Nat) : Nat → Nat := if σ (21 + w) = 0 then σ else if σ (21 + w) = 1 then begF (if σ (18 + w) = 1 then un (un σ (21 + w) 0) (σ (24 + w)) 2 else un (un σ (21 + w) 0) 27 1) w 0 0 0 else un σ (21 + w) (σ (21 + w) - 1)
def woF (σ : Nat → Nat) : Nat → Nat → Nat
  | 0 => σ
  | n + 1 => wo1 (woF σ n) n
def paF (p σ : Nat → Nat) : Nat → Nat := un (woF (heF p σ (p 0)) (p 1)) 28 (σ 28 + 1)
def paB (p σ : Nat → Nat) : Nat := bc p σ (p 0)
/-- what the women's turn leaves alone -/
theorem wo1_keep {σ : Nat → Nat} {w j : Nat} (hw : w < 3) (hc : σ (18 + w) = 1 → σ (24 + w) < 6) (h1 : 6 ≤ j) (h2 : ¬ j = 27) (h3 : ¬ j = 18 + w) (h4 : ¬ j = 21 + w) (h5 : ¬ j = 24 + w) : wo1 σ w j = σ j := by
  unfold wo1 begF
  by_cases a : σ (21 + w) = 0
  · rw [if_pos a]
  · rw [if_neg a]
    by_cases b : σ (21 + w) = 1
    · rw [if_pos b, un_ne h5, un_ne h4, un_ne h3]
      by_cases c : σ (18 + w) = 1
      · have := hc c
        rw [if_pos c, un_ne (by omega), un_ne h4]
      · rw [if_neg c, un_ne h2, un_ne h4]
    · rw [if_neg b, un_ne h4]
theorem woF_keep {σ : Nat → Nat} {n : Nat} (hn : n ≤ 3) (hc : ∀ w, w < n → σ (18 + w) = 1 → σ (24 + w) < 6) : ∀ i, i ≤ n → ∀ j, 6 ≤ j → ¬ j = 27 → (∀ v, v < i → ¬ j = 18 + v ∧ ¬ j = 21 + v ∧ ¬ j = 24 + v) → woF σ i j = σ j := by
  intro i
  induction i with
  | zero => intro _ j _ _ _; rfl
  | succ i ih =>
    intro hi j h1 h2 h3
    have hk : ∀ j, 6 ≤ j → ¬ j = 27 → (∀ v, v < i → ¬ j = 18 + v ∧ ¬ j = 21 + v ∧ ¬ j = 24 + v) → woF σ i j = σ j := ih (by omega)
    have e1 : woF σ i (18 + i) = σ (18 + i) := hk _ (by omega) (by omega) (fun v hv => ⟨by omega, by omega, by omega⟩)
    have e2 : woF σ i (24 + i) = σ (24 + i) := hk _ (by omega) (by omega) (fun v hv => ⟨by omega, by omega, by omega⟩)
    have h4 := h3 i (by omega)
    rw [woF, wo1_keep (by omega) (by rw [e1, e2]; exact hc i (by omega)) h1 h2 h4.1 h4.2.1 h4.2.2]
    exact hk j h1 h2 (fun v hv => h3 v (by omega))
def FM (m m' : fm_M) : Prop := ∀ c, ¬ c = 4 → m' c = m c
theorem FM.rf (m : fm_M) : FM m m := fun _ _ => rfl
theorem FM.tr {a b c : fm_M} (h1 : FM a b) (h2 : FM b c) : FM a c := fun k hk => (h2 k hk).trans (h1 k hk)
theorem FM.up (m : fm_M) (k : Nat) (v : Int32) : FM m (fm_up m 4 k v) := fun _ hc => m_up_ne hc
theorem RM.un {p σ : Nat → Nat} {m : fm_M} (h : RM p σ m) (j v : Nat) : RM p (un σ j v) (fm_up m 4 j (nI v)) := by
  refine ⟨fun k hk => by rw [m_up_ne (by omega)]; exact h.1 k hk, fun k hk => ?_⟩
  rw [m_up_eq]
  by_cases e : k = j
  · subst e; rw [m_upd_eq, un_eq]
  · rw [m_upd_ne e, un_ne e]; exact h.2 k hk
theorem RM.ext {p σ τ : Nat → Nat} {m : fm_M} (h : RM p σ m) (e : ∀ j, j < 29 → σ j = τ j) : RM p τ m := ⟨h.1, fun j hj => by rw [← e j hj]; exact h.2 j hj⟩
/-- one above the highest woman who has c in hands (0: none) -/
def whF (σ : Nat → Nat) (c : Nat) : Nat → Nat
  | 0 => 0
  | n + 1 => if σ (18 + n) = 1 ∧ σ (24 + n) = c then n + 1 else whF σ c n
def enW (σ : Nat → Nat) (c n : Nat) : Int32 := if 0 < whF σ c n then nI (whF σ c n - 1) else -4
