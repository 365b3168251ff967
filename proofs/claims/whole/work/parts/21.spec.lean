/-! THE HALL AS NUMBERS: the told row p (17), the hall's row σ (29), as the reference has them -/
def hc (σ : Nat → Nat) (fr how : Nat) : Nat → Nat
  | 0 => 0
  | n + 1 => hc σ fr how n + (if σ (fr + n) = how then 1 else 0)
theorem hc_le (σ : Nat → Nat) (fr how : Nat) : ∀ n, hc σ fr how n ≤ n
  | 0 => Nat.le_refl 0
  | n + 1 => by
    have := hc_le σ fr how n
    unfold hc
    split <;> omega
theorem hc_cong {σ τ : Nat → Nat} {fr how : Nat} : ∀ {n : Nat}, (∀ k, k < n → (σ (fr + k) = how ↔ τ (fr + k) = how)) → hc σ fr how n = hc τ fr how n
  | 0, _ => rfl
  | n + 1, h => by
    unfold hc
    rw [hc_cong (fun k hk => h k (by omega))]
    congr 1
    by_cases e : σ (fr + n) = how
    · rw [if_pos e, if_pos ((h n (by omega)).mp e)]
    · rw [if_neg e, if_neg (fun q => e ((h n (by omega)).mpr q))]
theorem hc_pos {σ : Nat → Nat} {fr how : Nat} : ∀ {n : Nat}, 0 < hc σ fr how n ↔ ∃ k, k < n ∧ σ (fr + k) = how
  | 0 => ⟨fun h => by simp [hc] at h, fun ⟨k, h, _⟩ => by omega⟩
  | n + 1 => by
    unfold hc
    by_cases e : σ (fr + n) = how
    · rw [if_pos e]
      exact ⟨fun _ => ⟨n, by omega, e⟩, fun _ => by omega⟩
    · rw [if_neg e, Nat.add_zero, hc_pos]
      exact ⟨fun ⟨k, h1, h2⟩ => ⟨k, by omega, h2⟩, fun ⟨k, h1, h2⟩ => ⟨k, by
        rcases (show k < n ∨ k = n by omega) with q | q
        · exact q
        · subst q; exact absurd h2 e, h2⟩⟩
def mi0 (k t : Nat) : Nat := if k = 1 then (t + 1) / 2 else if k = 3 then t + 2 else t
def mins (k t la : Nat) : Nat := if la = 1 ∧ 1 < mi0 k t then mi0 k t - 1 else mi0 k t
theorem mi0_b {k t : Nat} (h1 : 1 ≤ t) (h2 : t ≤ 12) : 1 ≤ mi0 k t ∧ mi0 k t ≤ 14 := by
  unfold mi0
  split
  · omega
  · split <;> omega
theorem mins_b {k t la : Nat} (h1 : 1 ≤ t) (h2 : t ≤ 12) : 1 ≤ mins k t la ∧ mins k t la ≤ 14 := by
  have := mi0_b (k := k) h1 h2
  unfold mins
  split <;> omega
def PI (p : Nat → Nat) : Prop := (∀ j, j < 17 → p j < 100) ∧ 1 ≤ p 0 ∧ p 0 ≤ 6 ∧ 1 ≤ p 1 ∧ p 1 ≤ 3 ∧ 1 ≤ p 2 ∧ p 2 ≤ 20 ∧ 1 ≤ p 3 ∧ p 3 ≤ 4 ∧ 1 ≤ p 4 ∧ p 4 ≤ 99 ∧ ∀ c, c < p 0 → p (5 + c) ≤ 3 ∧ 1 ≤ p (11 + c) ∧ p (11 + c) ≤ 12
def HI (p σ : Nat → Nat) : Prop := (∀ j, j < 29 → σ j < 3000) ∧ (∀ c, c < p 0 → σ c ≤ 3 ∧ (σ c ≠ 2 → σ (6 + c) = 0) ∧ σ (6 + c) ≤ p 2 ∧ σ (12 + c) ≤ σ 28) ∧ (∀ w, w < p 1 → σ (18 + w) ≤ 3 ∧ (σ (18 + w) = 0 ∨ σ (18 + w) = 3 → σ (21 + w) = 0) ∧ (σ (18 + w) = 1 → 1 ≤ σ (21 + w) ∧ σ (21 + w) ≤ 14 ∧ σ (24 + w) < p 0 ∧ σ (σ (24 + w)) = 1) ∧ (σ (18 + w) = 2 → 1 ≤ σ (21 + w) ∧ σ (21 + w) ≤ 14)) ∧ (∀ w v, w < p 1 → v < p 1 → w ≠ v → σ (18 + w) = 1 → σ (18 + v) = 1 → σ (24 + w) ≠ σ (24 + v)) ∧ σ 27 ≤ 1 ∧ σ 28 ≤ 2000
/-- the reference's memory holds p and σ -/
def RM (p σ : Nat → Nat) (m : fm_M) : Prop := (∀ j, j < 17 → m 2 j = nI (p j)) ∧ ∀ j, j < 29 → m 4 j = nI (σ j)
def minsOf (p σ : Nat → Nat) (c : Nat) : Nat := mins (p (5 + c)) (p (11 + c)) (σ 27)
/-- the lowest free woman (n: none) -/
def lowF (σ : Nat → Nat) : Nat → Nat
  | 0 => 0
  | n + 1 => if lowF σ n < n then lowF σ n else if σ (18 + n) = 0 then n else n + 1
theorem lowF_spec (σ : Nat → Nat) : ∀ n, lowF σ n ≤ n ∧ (lowF σ n < n → σ (18 + lowF σ n) = 0) ∧ ∀ v, v < lowF σ n → ¬ σ (18 + v) = 0
  | 0 => ⟨Nat.le_refl 0, fun h => by simp [lowF] at h, fun v h => by simp [lowF] at h⟩
  | n + 1 => by
    obtain ⟨h1, h2, h3⟩ := lowF_spec σ n
    unfold lowF
    split
    · rename_i h
      exact ⟨by omega, fun _ => h2 h, h3⟩
    · have e : lowF σ n = n := by omega
      rw [e] at h3
      split
      · rename_i h
        exact ⟨by omega, fun _ => h, h3⟩
      · rename_i h
        refine ⟨by omega, fun q => by omega, fun v hv => ?_⟩
        rcases (show v < n ∨ v = n by omega) with q | q
        · exact h3 v q
        · subst q; exact h
/-- one above the highest free woman (0: none) -/
def highF (σ : Nat → Nat) : Nat → Nat
  | 0 => 0
  | n + 1 => if σ (18 + n) = 0 then n + 1 else highF σ n
theorem highF_spec (σ : Nat → Nat) : ∀ n, highF σ n ≤ n ∧ (0 < highF σ n → σ (18 + (highF σ n - 1)) = 0) ∧ ∀ v, highF σ n ≤ v → v < n → ¬ σ (18 + v) = 0
  | 0 => ⟨Nat.le_refl 0, fun h => by simp [highF] at h, fun v _ h => by omega⟩
  | n + 1 => by
    obtain ⟨h1, h2, h3⟩ := highF_spec σ n
    unfold highF
    split
    · rename_i h
      exact ⟨by omega, fun _ => by simpa using h, fun v a b => by omega⟩
    · rename_i h
      refine ⟨by omega, h2, fun v a b => ?_⟩
      rcases (show v < n ∨ v = n by omega) with q | q
      · exact h3 v a q
      · subst q; exact h
def enL (σ : Nat → Nat) (n : Nat) : Int32 := if lowF σ n < n then nI (lowF σ n) else -4
def enH (σ : Nat → Nat) (n : Nat) : Int32 := if 0 < highF σ n then nI (highF σ n - 1) else -4
def begF (σ : Nat → Nat) (w how k c : Nat) : Nat → Nat := un (un (un σ (18 + w) how) (21 + w) k) (24 + w) c
def drF (p σ : Nat → Nat) (w c : Nat) : Nat → Nat := un (begF σ w 1 (minsOf p σ c) c) c 1
/-- somebody lays out, or things are laid out -/
def laidF (σ : Nat → Nat) (n : Nat) : Prop := σ 27 = 1 ∨ 0 < hc σ 18 2 n
theorem in_nI {c : Int32} {n : Nat} (h : fm_in c n = true) : ∃ k, k < n ∧ c = nI k := by
  unfold fm_in at h
  rw [decide_eq_true_eq] at h
  rcases z_cases c with ⟨h1, _⟩ | ⟨j, hj, rfl⟩
  · omega
  · rw [nI_toInt hj] at h
    exact ⟨j, by omega, rfl⟩
def bI (b : Bool) : Int32 := if b then 1 else 0
theorem bI_b (b : Bool) : (fm_b (bI b) = true) = True := by cases b <;> decide
theorem bI_0 (b : Bool) : (bI b = 0) = (b = false) := by cases b <;> simp [bI]
theorem bI_0' (b : Bool) : (bI b = nI 0) = (b = false) := bI_0 b
theorem z_addm1 (a : Int32) : a + (-1) = a - nI 1 := by
  rw [show nI 1 = (1 : Int32) from rfl, Int32.sub_eq_add_neg]
