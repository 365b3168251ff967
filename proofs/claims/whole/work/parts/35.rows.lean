/-! the reference: rows copied -/
theorem it_fill {body : fm_M × Int32 → Option ((fm_M × Int32) ⊕ (fm_M × Int32))} (n d off : Nat) (val : Nat → Int32) (m : fm_M) (hn : n < 100000) (hs : ∀ k m', k < n → (∀ c, ¬ c = d → m' c = m c) → (∀ j, j < off ∨ off + k ≤ j → m' d j = m d j) → body (m', nI k) = some (.inl (fm_up m' d (off + k) (val k), nI (k + 1)))) (he : ∀ m', (∀ c, ¬ c = d → m' c = m c) → body (m', nI n) = some (.inr (m', nI n))) : ∃ m', fm_it body fm_fu (m, 0) = some (m', nI n) ∧ (∀ c, ¬ c = d → m' c = m c) ∧ (∀ j, j < off ∨ off + n ≤ j → m' d j = m d j) ∧ ∀ j, j < n → m' d (off + j) = val j := by
  obtain ⟨x, h1, m', h2, h3⟩ := it_go (body := body) (fun k t => ∃ m', t = (m', nI k) ∧ (∀ c, ¬ c = d → m' c = m c) ∧ (∀ j, j < off ∨ off + k ≤ j → m' d j = m d j) ∧ ∀ j, j < k → m' d (off + j) = val j) (fun x => ∃ m', x = (m', nI n) ∧ (∀ c, ¬ c = d → m' c = m c) ∧ (∀ j, j < off ∨ off + n ≤ j → m' d j = m d j) ∧ ∀ j, j < n → m' d (off + j) = val j) n (m, 0) hn ⟨m, rfl, fun _ _ => rfl, fun _ _ => rfl, fun j hj => by omega⟩ (by
    rintro k t hk ⟨m', rfl, q1, q2, q3⟩
    left
    refine ⟨_, hs k m' hk q1 q2, _, rfl, fun c hc => by rw [m_up_ne hc]; exact q1 c hc, fun j hj => ?_, fun j hj => ?_⟩
    · rw [m_up_eq, m_upd_ne (by omega)]; exact q2 j (by omega)
    · rw [m_up_eq]
      by_cases e : j = k
      · subst e; rw [m_upd_eq]
      · rw [m_upd_ne (by omega)]; exact q3 j (by omega)) (by
    rintro t ⟨m', rfl, q1, q2⟩
    exact ⟨_, he m' q1, m', rfl, q1, q2⟩)
  exact ⟨m', by rw [h1, h2], h3⟩
theorem M_holds (m : fm_M) : ∃ m', f_X9_holds m = some (0, m') ∧ (∀ c, ¬ c = 8 → m' c = m c) ∧ ∀ j, j < 29 → m' 8 j = m 4 j := by
  obtain ⟨m', h1, h2, -, h4⟩ := it_fill (body := fun (yy : fm_M × Int32) => f_X9_holds_2 yy.1 yy.2) 29 8 0 (fun j => m 4 j) m (by omega) (fun k m' hk q1 q2 => by
    have e := q1 4 (by omega)
    dsimp only [f_X9_holds_2]
    simp (disch := omega) only [zl0, zl1, zl2, zl3, zl4, zl5, zl6, zl7, zl8, zl9, zl10, zl11, zl12, zl13, zl17, zl18, zl19, zl20, zl21, zl22, zl23, zl24, zl25, zl26, zl27, zl28, zl29, zl31, zl32, zl40, zl42, zl44, zl48, zl50, zl57, zl58, zl59, zl60, zl65, zl97, zl98, zl99, zl100, zl103, zl104, zl108, zl119, zl126, zl200, zl203, zl255, zl999, zl9999, zl720, zl232, z_add, z_le, z_lt, z_eq, z_clamp, z_in, z_m4, z_m4n, z_m1n, z_b0, z_b1, m_up_eq, m_up_ne, m_upd_eq, m_upd_ne, bd_s, op_s2, Bool.false_eq_true, eq_self, if_true, if_false, if_pos, if_neg, Nat.zero_add, e]) (fun m' q1 => by
    dsimp only [f_X9_holds_2]
    simp (disch := omega) only [zl0, zl1, zl2, zl3, zl4, zl5, zl6, zl7, zl8, zl9, zl10, zl11, zl12, zl13, zl17, zl18, zl19, zl20, zl21, zl22, zl23, zl24, zl25, zl26, zl27, zl28, zl29, zl31, zl32, zl40, zl42, zl44, zl48, zl50, zl57, zl58, zl59, zl60, zl65, zl97, zl98, zl99, zl100, zl103, zl104, zl108, zl119, zl126, zl200, zl203, zl255, zl999, zl9999, zl720, zl232, z_add, z_le, z_lt, z_eq, z_clamp, z_in, z_m4, z_m4n, z_m1n, z_b0, z_b1, m_up_eq, m_up_ne, m_upd_eq, m_upd_ne, bd_s, op_s2, Bool.false_eq_true, eq_self, if_true, if_false, if_pos, if_neg])
  refine ⟨m', ?_, h2, fun j hj => by have := h4 j hj; rwa [Nat.zero_add] at this⟩
  unfold f_X9_holds
  rw [op_some h1]
theorem M_lets (m : fm_M) : ∃ m', f_X9_lets m = some (0, m') ∧ (∀ c, ¬ c = 4 → m' c = m c) ∧ ∀ j, j < 29 → m' 4 j = m 8 j := by
  obtain ⟨m', h1, h2, -, h4⟩ := it_fill (body := fun (yy : fm_M × Int32) => f_X9_lets_2 yy.1 yy.2) 29 4 0 (fun j => m 8 j) m (by omega) (fun k m' hk q1 q2 => by
    have e := q1 8 (by omega)
    dsimp only [f_X9_lets_2]
    simp (disch := omega) only [zl0, zl1, zl2, zl3, zl4, zl5, zl6, zl7, zl8, zl9, zl10, zl11, zl12, zl13, zl17, zl18, zl19, zl20, zl21, zl22, zl23, zl24, zl25, zl26, zl27, zl28, zl29, zl31, zl32, zl40, zl42, zl44, zl48, zl50, zl57, zl58, zl59, zl60, zl65, zl97, zl98, zl99, zl100, zl103, zl104, zl108, zl119, zl126, zl200, zl203, zl255, zl999, zl9999, zl720, zl232, z_add, z_le, z_lt, z_eq, z_clamp, z_in, z_m4, z_m4n, z_m1n, z_b0, z_b1, m_up_eq, m_up_ne, m_upd_eq, m_upd_ne, bd_s, op_s2, Bool.false_eq_true, eq_self, if_true, if_false, if_pos, if_neg, Nat.zero_add, e]) (fun m' q1 => by
    dsimp only [f_X9_lets_2]
    simp (disch := omega) only [zl0, zl1, zl2, zl3, zl4, zl5, zl6, zl7, zl8, zl9, zl10, zl11, zl12, zl13, zl17, zl18, zl19, zl20, zl21, zl22, zl23, zl24, zl25, zl26, zl27, zl28, zl29, zl31, zl32, zl40, zl42, zl44, zl48, zl50, zl57, zl58, zl59, zl60, zl65, zl97, zl98, zl99, zl100, zl103, zl104, zl108, zl119, zl126, zl200, zl203, zl255, zl999, zl9999, zl720, zl232, z_add, z_le, z_lt, z_eq, z_clamp, z_in, z_m4, z_m4n, z_m1n, z_b0, z_b1, m_up_eq, m_up_ne, m_upd_eq, m_upd_ne, bd_s, op_s2, Bool.false_eq_true, eq_self, if_true, if_false, if_pos, if_neg])
  refine ⟨m', ?_, h2, fun j hj => by have := h4 j hj; rwa [Nat.zero_add] at this⟩
  unfold f_X9_lets
  rw [op_some h1]
theorem M_starts (m : fm_M) : ∃ m', f_X9_starts m = some (0, m') ∧ (∀ c, ¬ c = 4 → m' c = m c) ∧ ∀ j, j < 29 → m' 4 j = nI 0 := by
  obtain ⟨m', h1, h2, -, h4⟩ := it_fill (body := fun (yy : fm_M × Int32) => f_X9_starts_2 yy.1 yy.2) 29 4 0 (fun j => nI 0) m (by omega) (fun k m' hk q1 q2 => by
    dsimp only [f_X9_starts_2]
    simp (disch := omega) only [zl0, zl1, zl2, zl3, zl4, zl5, zl6, zl7, zl8, zl9, zl10, zl11, zl12, zl13, zl17, zl18, zl19, zl20, zl21, zl22, zl23, zl24, zl25, zl26, zl27, zl28, zl29, zl31, zl32, zl40, zl42, zl44, zl48, zl50, zl57, zl58, zl59, zl60, zl65, zl97, zl98, zl99, zl100, zl103, zl104, zl108, zl119, zl126, zl200, zl203, zl255, zl999, zl9999, zl720, zl232, z_add, z_le, z_lt, z_eq, z_clamp, z_in, z_m4, z_m4n, z_m1n, z_b0, z_b1, m_up_eq, m_up_ne, m_upd_eq, m_upd_ne, bd_s, op_s2, Bool.false_eq_true, eq_self, if_true, if_false, if_pos, if_neg, Nat.zero_add]) (fun m' q1 => by
    dsimp only [f_X9_starts_2]
    simp (disch := omega) only [zl0, zl1, zl2, zl3, zl4, zl5, zl6, zl7, zl8, zl9, zl10, zl11, zl12, zl13, zl17, zl18, zl19, zl20, zl21, zl22, zl23, zl24, zl25, zl26, zl27, zl28, zl29, zl31, zl32, zl40, zl42, zl44, zl48, zl50, zl57, zl58, zl59, zl60, zl65, zl97, zl98, zl99, zl100, zl103, zl104, zl108, zl119, zl126, zl200, zl203, zl255, zl999, zl9999, zl720, zl232, z_add, z_le, z_lt, z_eq, z_clamp, z_in, z_m4, z_m4n, z_m1n, z_b0, z_b1, m_up_eq, m_up_ne, m_upd_eq, m_upd_ne, bd_s, op_s2, Bool.false_eq_true, eq_self, if_true, if_false, if_pos, if_neg])
  refine ⟨m', ?_, h2, fun j hj => by have := h4 j hj; rwa [Nat.zero_add] at this⟩
  unfold f_X9_starts
  rw [op_some h1]
theorem M_lays (m : fm_M) : ∃ m', f_X9_lays m = some (0, m') ∧ (∀ c, ¬ c = 0 → ¬ c = 2 → ¬ c = 4 → m' c = m c) ∧ (∀ j, j < 17 → m' 2 j = m 3 j) ∧ (∀ j, j < 29 → m' 4 j = nI 0) ∧ m' 0 6 = nI 0 ∧ m' 0 8 = nI 0 ∧ m' 0 10 = nI 0 ∧ m' 0 1 = m 0 1 := by
  obtain ⟨m1, h1, h2, -, h4⟩ := it_fill (body := fun (yy : fm_M × Int32) => f_X9_lays_2 yy.1 yy.2) 17 2 0 (fun j => m 3 j) m (by omega) (fun k m' hk q1 q2 => by
    have e := q1 3 (by omega)
    dsimp only [f_X9_lays_2]
    simp (disch := omega) only [zl0, zl1, zl2, zl3, zl4, zl5, zl6, zl7, zl8, zl9, zl10, zl11, zl12, zl13, zl17, zl18, zl19, zl20, zl21, zl22, zl23, zl24, zl25, zl26, zl27, zl28, zl29, zl31, zl32, zl40, zl42, zl44, zl48, zl50, zl57, zl58, zl59, zl60, zl65, zl97, zl98, zl99, zl100, zl103, zl104, zl108, zl119, zl126, zl200, zl203, zl255, zl999, zl9999, zl720, zl232, z_add, z_le, z_lt, z_eq, z_clamp, z_in, z_m4, z_m4n, z_m1n, z_b0, z_b1, m_up_eq, m_up_ne, m_upd_eq, m_upd_ne, bd_s, op_s2, Bool.false_eq_true, eq_self, if_true, if_false, if_pos, if_neg, Nat.zero_add, e]) (fun m' q1 => by
    dsimp only [f_X9_lays_2]
    simp (disch := omega) only [zl0, zl1, zl2, zl3, zl4, zl5, zl6, zl7, zl8, zl9, zl10, zl11, zl12, zl13, zl17, zl18, zl19, zl20, zl21, zl22, zl23, zl24, zl25, zl26, zl27, zl28, zl29, zl31, zl32, zl40, zl42, zl44, zl48, zl50, zl57, zl58, zl59, zl60, zl65, zl97, zl98, zl99, zl100, zl103, zl104, zl108, zl119, zl126, zl200, zl203, zl255, zl999, zl9999, zl720, zl232, z_add, z_le, z_lt, z_eq, z_clamp, z_in, z_m4, z_m4n, z_m1n, z_b0, z_b1, m_up_eq, m_up_ne, m_upd_eq, m_upd_ne, bd_s, op_s2, Bool.false_eq_true, eq_self, if_true, if_false, if_pos, if_neg])
  obtain ⟨m2, g1, g2, g3⟩ := M_starts m1
  refine ⟨fm_up (fm_up (fm_up m2 0 6 (nI 0)) 0 8 (nI 0)) 0 10 (nI 0), ?_, fun c c0 c2 c4 => ?_, fun j hj => ?_, fun j hj => ?_, ?_, ?_, ?_, ?_⟩
  · unfold f_X9_lays
    rw [op_some h1]
    dsimp only
    rw [bd_some g1]
    rfl
  · simp (disch := omega) only [m_up_ne]
    rw [g2 c c4, h2 c c2]
  · simp (disch := omega) only [m_up_ne]
    rw [g2 2 (by omega)]
    have := h4 j hj
    rwa [Nat.zero_add] at this
  · simp (disch := omega) only [m_up_ne]
    exact g3 j hj
  · simp (disch := omega) only [m_up_eq, m_upd_ne, m_upd_eq]
  · simp (disch := omega) only [m_up_eq, m_upd_ne, m_upd_eq]
  · simp (disch := omega) only [m_up_eq, m_upd_ne, m_upd_eq]
  · simp (disch := omega) only [m_up_eq, m_upd_ne, m_upd_eq]
    rw [g2 0 (by omega), h2 0 (by omega)]
/-- the rows that can be undone: H k the k-th latest, of n -/
def PM (H : Nat → Nat → Nat) (n : Nat) (m : fm_M) : Prop := n ≤ 8 ∧ m 0 6 = nI n ∧ ∀ k, k < n → ∀ j, j < 29 → m 5 (29 * (n - 1 - k) + j) = nI (H k j)
/-- the rows kept -/
def KM (H : Nat → Nat → Nat) (n : Nat) (m : fm_M) : Prop := n ≤ 2 ∧ m 0 8 = nI n ∧ ∀ k, k < n → ∀ j, j < 29 → m 6 (29 * (n - 1 - k) + j) = nI (H k j)
def push (σ : Nat → Nat) (H : Nat → Nat → Nat) : Nat → Nat → Nat
  | 0 => σ
  | k + 1 => H k
theorem M_keeps49 {σ : Nat → Nat} {H : Nat → Nat → Nat} {n : Nat} {m : fm_M} (hn : n < 8) (h6 : m 0 6 = nI n) (hσ : ∀ j, j < 29 → m 4 j = nI (σ j)) (hP : ∀ k, k < n → ∀ j, j < 29 → m 5 (29 * (n - 1 - k) + j) = nI (H k j)) : ∃ m', f_X9_keeps_49 m = some (0, m') ∧ PM (push σ H) (n + 1) m' ∧ (∀ c, ¬ c = 0 → ¬ c = 5 → m' c = m c) ∧ ∀ k, ¬ k = 6 → m' 0 k = m 0 k := by
  obtain ⟨m1, h1, h2, h3, h4⟩ := it_fill (body := fun (yy : fm_M × Int32) => f_X9_keeps_51 yy.1 yy.2) 29 5 (29 * n) (fun j => m 4 j) m (by omega) (fun k m' hk q1 q2 => by
    have e4 := q1 4 (by omega)
    have e0 : m' 0 6 = nI n := by rw [q1 0 (by omega)]; exact h6
    dsimp only [f_X9_keeps_51]
    simp (disch := omega) only [zl0, zl1, zl2, zl3, zl4, zl5, zl6, zl7, zl8, zl9, zl10, zl11, zl12, zl13, zl17, zl18, zl19, zl20, zl21, zl22, zl23, zl24, zl25, zl26, zl27, zl28, zl29, zl31, zl32, zl40, zl42, zl44, zl48, zl50, zl57, zl58, zl59, zl60, zl65, zl97, zl98, zl99, zl100, zl103, zl104, zl108, zl119, zl126, zl200, zl203, zl255, zl999, zl9999, zl720, zl232, z_add, z_le, z_lt, z_eq, z_clamp, z_in, z_m4, z_m4n, z_m1n, z_b0, z_b1, m_up_eq, m_up_ne, m_upd_eq, m_upd_ne, bd_s, op_s2, Bool.false_eq_true, eq_self, if_true, if_false, if_pos, if_neg, z_mul, e0, e4]) (fun m' q1 => by
    dsimp only [f_X9_keeps_51]
    simp (disch := omega) only [zl0, zl1, zl2, zl3, zl4, zl5, zl6, zl7, zl8, zl9, zl10, zl11, zl12, zl13, zl17, zl18, zl19, zl20, zl21, zl22, zl23, zl24, zl25, zl26, zl27, zl28, zl29, zl31, zl32, zl40, zl42, zl44, zl48, zl50, zl57, zl58, zl59, zl60, zl65, zl97, zl98, zl99, zl100, zl103, zl104, zl108, zl119, zl126, zl200, zl203, zl255, zl999, zl9999, zl720, zl232, z_add, z_le, z_lt, z_eq, z_clamp, z_in, z_m4, z_m4n, z_m1n, z_b0, z_b1, m_up_eq, m_up_ne, m_upd_eq, m_upd_ne, bd_s, op_s2, Bool.false_eq_true, eq_self, if_true, if_false, if_pos, if_neg])
  have e0 : m1 0 6 = nI n := by rw [h2 0 (by omega)]; exact h6
  refine ⟨fm_up m1 0 6 (nI (n + 1)), ?_, ⟨by omega, by rw [m_up_eq, m_upd_eq], fun k hk j hj => ?_⟩, fun c c0 c5 => by rw [m_up_ne c0]; exact h2 c c5, fun k hk => by rw [m_up_eq, m_upd_ne hk, h2 0 (by omega)]⟩
  · unfold f_X9_keeps_49
    rw [op_some h1]
    simp (disch := omega) only [zl0, zl1, zl2, zl3, zl4, zl5, zl6, zl7, zl8, zl9, zl10, zl11, zl12, zl13, zl17, zl18, zl19, zl20, zl21, zl22, zl23, zl24, zl25, zl26, zl27, zl28, zl29, zl31, zl32, zl40, zl42, zl44, zl48, zl50, zl57, zl58, zl59, zl60, zl65, zl97, zl98, zl99, zl100, zl103, zl104, zl108, zl119, zl126, zl200, zl203, zl255, zl999, zl9999, zl720, zl232, z_add, z_le, z_lt, z_eq, z_clamp, z_in, z_m4, z_m4n, z_m1n, z_b0, z_b1, m_up_eq, m_up_ne, m_upd_eq, m_upd_ne, bd_s, op_s2, Bool.false_eq_true, eq_self, if_true, if_false, if_pos, if_neg, e0]
  · rw [m_up_ne (by omega)]
    cases k with
    | zero =>
      rw [show 29 * (n + 1 - 1 - 0) + j = 29 * n + j by omega, h4 j hj]
      exact hσ j hj
    | succ k =>
      rw [show 29 * (n + 1 - 1 - (k + 1)) + j = 29 * (n - 1 - k) + j by omega, h3 _ (Or.inl (by
        have : n - 1 - k + 1 ≤ n := by omega
        have := Nat.mul_le_mul_left 29 this
        omega))]
      exact hP k (by omega) j hj
theorem M_keeps {σ : Nat → Nat} {H : Nat → Nat → Nat} {n : Nat} {m : fm_M} (hσ : ∀ j, j < 29 → m 4 j = nI (σ j)) (hP : PM H n m) : ∃ m', f_X9_keeps m = some (0, m') ∧ PM (push σ H) (if n = 8 then 8 else n + 1) m' ∧ (∀ c, ¬ c = 0 → ¬ c = 5 → m' c = m c) ∧ ∀ k, ¬ k = 6 → m' 0 k = m 0 k := by
  obtain ⟨h1, h2, h3⟩ := hP
  unfold f_X9_keeps
  by_cases e : n = 8
  · subst e
    obtain ⟨m1, g1, g2, g3, g4⟩ := it_fill (body := fun (yy : fm_M × Int32) => f_X9_keeps_11 yy.1 yy.2) 203 5 0 (fun j => m 5 (j + 29)) m (by omega) (fun k m' hk q1 q2 => by
      have e5 := q2 (k + 29) (by omega)
      dsimp only [f_X9_keeps_11]
      simp (disch := omega) only [zl0, zl1, zl2, zl3, zl4, zl5, zl6, zl7, zl8, zl9, zl10, zl11, zl12, zl13, zl17, zl18, zl19, zl20, zl21, zl22, zl23, zl24, zl25, zl26, zl27, zl28, zl29, zl31, zl32, zl40, zl42, zl44, zl48, zl50, zl57, zl58, zl59, zl60, zl65, zl97, zl98, zl99, zl100, zl103, zl104, zl108, zl119, zl126, zl200, zl203, zl255, zl999, zl9999, zl720, zl232, z_add, z_le, z_lt, z_eq, z_clamp, z_in, z_m4, z_m4n, z_m1n, z_b0, z_b1, m_up_eq, m_up_ne, m_upd_eq, m_upd_ne, bd_s, op_s2, Bool.false_eq_true, eq_self, if_true, if_false, if_pos, if_neg, Nat.zero_add, e5]) (fun m' q1 => by
      dsimp only [f_X9_keeps_11]
      simp (disch := omega) only [zl0, zl1, zl2, zl3, zl4, zl5, zl6, zl7, zl8, zl9, zl10, zl11, zl12, zl13, zl17, zl18, zl19, zl20, zl21, zl22, zl23, zl24, zl25, zl26, zl27, zl28, zl29, zl31, zl32, zl40, zl42, zl44, zl48, zl50, zl57, zl58, zl59, zl60, zl65, zl97, zl98, zl99, zl100, zl103, zl104, zl108, zl119, zl126, zl200, zl203, zl255, zl999, zl9999, zl720, zl232, z_add, z_le, z_lt, z_eq, z_clamp, z_in, z_m4, z_m4n, z_m1n, z_b0, z_b1, m_up_eq, m_up_ne, m_upd_eq, m_upd_ne, bd_s, op_s2, Bool.false_eq_true, eq_self, if_true, if_false, if_pos, if_neg])
    have e0 : m1 0 6 = nI 8 := by rw [g2 0 (by omega)]; exact h2
    obtain ⟨m2, k1, k2, k3, k4⟩ := M_keeps49 (σ := σ) (H := H) (n := 7) (m := fm_up m1 0 6 (nI 7)) (by omega) (by rw [m_up_eq, m_upd_eq]) (fun j hj => by rw [m_up_ne (by omega), g2 4 (by omega)]; exact hσ j hj) (fun k hk j hj => by
      have := g4 (29 * (7 - 1 - k) + j) (by omega)
      rw [Nat.zero_add] at this
      rw [m_up_ne (by omega), this, show 29 * (7 - 1 - k) + j + 29 = 29 * (8 - 1 - k) + j by omega]
      exact h3 k (by omega) j hj)
    refine ⟨m2, ?_, by rw [if_pos rfl]; exact k2, fun c c0 c5 => by rw [k3 c c0 c5, m_up_ne c0]; exact g2 c c5, fun k hk => by rw [k4 k hk, m_up_eq, m_upd_ne hk, g2 0 (by omega)]⟩
    rw [h2, if_pos (show nI 8 = (8 : Int32) from rfl), op_some g1]
    dsimp only
    rw [e0, show nI 8 - (1 : Int32) = nI 7 from by decide]
    exact k1
  · obtain ⟨m2, k1, k2, k3, k4⟩ := M_keeps49 (σ := σ) (H := H) (n := n) (m := m) (by omega) h2 hσ h3
    refine ⟨m2, ?_, by rw [if_neg e]; exact k2, k3, k4⟩
    rw [h2, show (8 : Int32) = nI 8 from rfl, if_neg (by rw [z_eq (by omega) (by omega)]; exact e)]
    exact k1
theorem M_undo {H : Nat → Nat → Nat} {n : Nat} {m : fm_M} (hP : PM H (n + 1) m) : ∃ m', f_X9_undo m = some (nI n, m') ∧ PM (fun k => H (k + 1)) n m' ∧ (∀ j, j < 29 → m' 4 j = nI (H 0 j)) ∧ (∀ c, ¬ c = 0 → ¬ c = 4 → m' c = m c) ∧ ∀ k, ¬ k = 6 → m' 0 k = m 0 k := by
  obtain ⟨h1, h2, h3⟩ := hP
  obtain ⟨m1, g1, g2, g3, g4⟩ := it_fill (body := fun (yy : fm_M × Int32) => f_X9_undo_22 yy.1 yy.2) 29 4 0 (fun j => m 5 (29 * n + j)) (fm_up m 0 6 (nI n)) (by omega) (fun k m' hk q1 q2 => by
    have e5 : m' 5 = m 5 := by rw [q1 5 (by omega), m_up_ne (by omega)]
    have e0 : m' 0 6 = nI n := by rw [q1 0 (by omega), m_up_eq, m_upd_eq]
    dsimp only [f_X9_undo_22]
    simp (disch := omega) only [zl0, zl1, zl2, zl3, zl4, zl5, zl6, zl7, zl8, zl9, zl10, zl11, zl12, zl13, zl17, zl18, zl19, zl20, zl21, zl22, zl23, zl24, zl25, zl26, zl27, zl28, zl29, zl31, zl32, zl40, zl42, zl44, zl48, zl50, zl57, zl58, zl59, zl60, zl65, zl97, zl98, zl99, zl100, zl103, zl104, zl108, zl119, zl126, zl200, zl203, zl255, zl999, zl9999, zl720, zl232, z_add, z_le, z_lt, z_eq, z_clamp, z_in, z_m4, z_m4n, z_m1n, z_b0, z_b1, m_up_eq, m_up_ne, m_upd_eq, m_upd_ne, bd_s, op_s2, Bool.false_eq_true, eq_self, if_true, if_false, if_pos, if_neg, z_mul, Nat.zero_add, e0, e5]) (fun m' q1 => by
    dsimp only [f_X9_undo_22]
    simp (disch := omega) only [zl0, zl1, zl2, zl3, zl4, zl5, zl6, zl7, zl8, zl9, zl10, zl11, zl12, zl13, zl17, zl18, zl19, zl20, zl21, zl22, zl23, zl24, zl25, zl26, zl27, zl28, zl29, zl31, zl32, zl40, zl42, zl44, zl48, zl50, zl57, zl58, zl59, zl60, zl65, zl97, zl98, zl99, zl100, zl103, zl104, zl108, zl119, zl126, zl200, zl203, zl255, zl999, zl9999, zl720, zl232, z_add, z_le, z_lt, z_eq, z_clamp, z_in, z_m4, z_m4n, z_m1n, z_b0, z_b1, m_up_eq, m_up_ne, m_upd_eq, m_upd_ne, bd_s, op_s2, Bool.false_eq_true, eq_self, if_true, if_false, if_pos, if_neg])
  have e0 : m1 0 6 = nI n := by rw [g2 0 (by omega), m_up_eq, m_upd_eq]
  refine ⟨m1, ?_, ⟨by omega, e0, fun k hk j hj => ?_⟩, fun j hj => ?_, fun c c0 c4 => by rw [g2 c c4, m_up_ne c0], fun k hk => by rw [g2 0 (by omega), m_up_eq, m_upd_ne hk]⟩
  · unfold f_X9_undo
    rw [h2, show (0 : Int32) = nI 0 from rfl, if_neg (by rw [z_eq (by omega) (by omega)]; omega), show (1 : Int32) = nI 1 from rfl, z_sub (by omega), Nat.add_sub_cancel, show nI 0 = (0 : Int32) from rfl, op_some g1]
    dsimp only
    rw [e0]
  · rw [g2 5 (by omega), m_up_ne (by omega), show 29 * (n - 1 - k) + j = 29 * (n + 1 - 1 - (k + 1)) + j by omega]
    exact h3 (k + 1) (by omega) j hj
  · have := g4 j hj
    rw [Nat.zero_add] at this
    rw [this]
    have h5 := h3 0 (by omega) j hj
    rwa [show 29 * (n + 1 - 1 - 0) + j = 29 * n + j by omega] at h5
theorem M_keep {σ : Nat → Nat} {H : Nat → Nat → Nat} {n : Nat} {m : fm_M} (hn : n < 2) (hσ : ∀ j, j < 29 → m 4 j = nI (σ j)) (hP : KM H n m) : ∃ m', f_X9_keep m = some (nI (n + 1), m') ∧ KM (push σ H) (n + 1) m' ∧ (∀ c, ¬ c = 0 → ¬ c = 6 → m' c = m c) ∧ ∀ k, ¬ k = 8 → m' 0 k = m 0 k := by
  obtain ⟨h0, h6, hP⟩ := hP
  obtain ⟨m1, h1, h2, h3, h4⟩ := it_fill (body := fun (yy : fm_M × Int32) => f_X9_keep_13 yy.1 yy.2) 29 6 (29 * n) (fun j => m 4 j) m (by omega) (fun k m' hk q1 q2 => by
    have e4 := q1 4 (by omega)
    have e0 : m' 0 8 = nI n := by rw [q1 0 (by omega)]; exact h6
    dsimp only [f_X9_keep_13]
    rw [e0, e4]
    simp (disch := omega) only [zl0, zl1, zl2, zl3, zl4, zl5, zl6, zl7, zl8, zl9, zl10, zl11, zl12, zl13, zl17, zl18, zl19, zl20, zl21, zl22, zl23, zl24, zl25, zl26, zl27, zl28, zl29, zl31, zl32, zl40, zl42, zl44, zl48, zl50, zl57, zl58, zl59, zl60, zl65, zl97, zl98, zl99, zl100, zl103, zl104, zl108, zl119, zl126, zl200, zl203, zl255, zl999, zl9999, zl720, zl232, z_add, z_le, z_lt, z_eq, z_clamp, z_in, z_m4, z_m4n, z_m1n, z_b0, z_b1, m_up_eq, m_up_ne, m_upd_eq, m_upd_ne, bd_s, op_s2, Bool.false_eq_true, eq_self, if_true, if_false, if_pos, if_neg, z_mul, show (58 : Nat) = 58 from rfl]) (fun m' q1 => by
    dsimp only [f_X9_keep_13]
    simp (disch := omega) only [zl0, zl1, zl2, zl3, zl4, zl5, zl6, zl7, zl8, zl9, zl10, zl11, zl12, zl13, zl17, zl18, zl19, zl20, zl21, zl22, zl23, zl24, zl25, zl26, zl27, zl28, zl29, zl31, zl32, zl40, zl42, zl44, zl48, zl50, zl57, zl58, zl59, zl60, zl65, zl97, zl98, zl99, zl100, zl103, zl104, zl108, zl119, zl126, zl200, zl203, zl255, zl999, zl9999, zl720, zl232, z_add, z_le, z_lt, z_eq, z_clamp, z_in, z_m4, z_m4n, z_m1n, z_b0, z_b1, m_up_eq, m_up_ne, m_upd_eq, m_upd_ne, bd_s, op_s2, Bool.false_eq_true, eq_self, if_true, if_false, if_pos, if_neg])
  have e0 : m1 0 8 = nI n := by rw [h2 0 (by omega)]; exact h6
  refine ⟨fm_up m1 0 8 (nI (n + 1)), ?_, ⟨by omega, by rw [m_up_eq, m_upd_eq], fun k hk j hj => ?_⟩, fun c c0 c5 => by rw [m_up_ne c0]; exact h2 c c5, fun k hk => by rw [m_up_eq, m_upd_ne hk, h2 0 (by omega)]⟩
  · unfold f_X9_keep
    rw [h6, show (2 : Int32) = nI 2 from rfl, if_neg (by rw [z_eq (by omega) (by omega)]; omega), op_some h1]
    simp (disch := omega) only [zl0, zl1, zl2, zl3, zl4, zl5, zl6, zl7, zl8, zl9, zl10, zl11, zl12, zl13, zl17, zl18, zl19, zl20, zl21, zl22, zl23, zl24, zl25, zl26, zl27, zl28, zl29, zl31, zl32, zl40, zl42, zl44, zl48, zl50, zl57, zl58, zl59, zl60, zl65, zl97, zl98, zl99, zl100, zl103, zl104, zl108, zl119, zl126, zl200, zl203, zl255, zl999, zl9999, zl720, zl232, z_add, z_le, z_lt, z_eq, z_clamp, z_in, z_m4, z_m4n, z_m1n, z_b0, z_b1, m_up_eq, m_up_ne, m_upd_eq, m_upd_ne, bd_s, op_s2, Bool.false_eq_true, eq_self, if_true, if_false, if_pos, if_neg, e0]
  · rw [m_up_ne (by omega)]
    cases k with
    | zero =>
      rw [show 29 * (n + 1 - 1 - 0) + j = 29 * n + j by omega, h4 j hj]
      exact hσ j hj
    | succ k =>
      rw [show 29 * (n + 1 - 1 - (k + 1)) + j = 29 * (n - 1 - k) + j by omega, h3 _ (Or.inl (by
        have : n - 1 - k + 1 ≤ n := by omega
        have := Nat.mul_le_mul_left 29 this
        omega))]
      exact hP k (by omega) j hj
theorem M_back {H : Nat → Nat → Nat} {n : Nat} {m : fm_M} (hP : KM H (n + 1) m) : ∃ m', f_X9_back m = some (nI n, m') ∧ KM (fun k => H (k + 1)) n m' ∧ (∀ j, j < 29 → m' 4 j = nI (H 0 j)) ∧ (∀ c, ¬ c = 0 → ¬ c = 4 → m' c = m c) ∧ m' 0 6 = nI 0 ∧ ∀ k, ¬ k = 6 → ¬ k = 8 → m' 0 k = m 0 k := by
  obtain ⟨h1, h2, h3⟩ := hP
  obtain ⟨m1, g1, g2, g3, g4⟩ := it_fill (body := fun (yy : fm_M × Int32) => f_X9_back_22 yy.1 yy.2) 29 4 0 (fun j => m 6 (29 * n + j)) (fm_up m 0 8 (nI n)) (by omega) (fun k m' hk q1 q2 => by
    have e5 : m' 6 = m 6 := by rw [q1 6 (by omega), m_up_ne (by omega)]
    have e0 : m' 0 8 = nI n := by rw [q1 0 (by omega), m_up_eq, m_upd_eq]
    dsimp only [f_X9_back_22]
    simp (disch := omega) only [zl0, zl1, zl2, zl3, zl4, zl5, zl6, zl7, zl8, zl9, zl10, zl11, zl12, zl13, zl17, zl18, zl19, zl20, zl21, zl22, zl23, zl24, zl25, zl26, zl27, zl28, zl29, zl31, zl32, zl40, zl42, zl44, zl48, zl50, zl57, zl58, zl59, zl60, zl65, zl97, zl98, zl99, zl100, zl103, zl104, zl108, zl119, zl126, zl200, zl203, zl255, zl999, zl9999, zl720, zl232, z_add, z_le, z_lt, z_eq, z_clamp, z_in, z_m4, z_m4n, z_m1n, z_b0, z_b1, m_up_eq, m_up_ne, m_upd_eq, m_upd_ne, bd_s, op_s2, Bool.false_eq_true, eq_self, if_true, if_false, if_pos, if_neg, z_mul, Nat.zero_add, e0, e5]) (fun m' q1 => by
    dsimp only [f_X9_back_22]
    simp (disch := omega) only [zl0, zl1, zl2, zl3, zl4, zl5, zl6, zl7, zl8, zl9, zl10, zl11, zl12, zl13, zl17, zl18, zl19, zl20, zl21, zl22, zl23, zl24, zl25, zl26, zl27, zl28, zl29, zl31, zl32, zl40, zl42, zl44, zl48, zl50, zl57, zl58, zl59, zl60, zl65, zl97, zl98, zl99, zl100, zl103, zl104, zl108, zl119, zl126, zl200, zl203, zl255, zl999, zl9999, zl720, zl232, z_add, z_le, z_lt, z_eq, z_clamp, z_in, z_m4, z_m4n, z_m1n, z_b0, z_b1, m_up_eq, m_up_ne, m_upd_eq, m_upd_ne, bd_s, op_s2, Bool.false_eq_true, eq_self, if_true, if_false, if_pos, if_neg])
  have e0 : m1 0 8 = nI n := by rw [g2 0 (by omega), m_up_eq, m_upd_eq]
  refine ⟨fm_up m1 0 6 (nI 0), ?_, ⟨by omega, by rw [m_up_eq, m_upd_ne (by omega)]; exact e0, fun k hk j hj => ?_⟩, fun j hj => ?_, fun c c0 c4 => by rw [m_up_ne c0, g2 c c4, m_up_ne c0], by rw [m_up_eq, m_upd_eq], fun k h6 h8 => by rw [m_up_eq, m_upd_ne h6, g2 0 (by omega), m_up_eq, m_upd_ne h8]⟩
  · unfold f_X9_back
    rw [h2, show (0 : Int32) = nI 0 from rfl, if_neg (by rw [z_eq (by omega) (by omega)]; omega), show (1 : Int32) = nI 1 from rfl, z_sub (by omega), Nat.add_sub_cancel, show nI 0 = (0 : Int32) from rfl, op_some g1]
    dsimp only
    rw [m_up_eq, m_upd_ne (by omega), e0]
  · rw [m_up_ne (by omega), g2 6 (by omega), m_up_ne (by omega), show 29 * (n - 1 - k) + j = 29 * (n + 1 - 1 - (k + 1)) + j by omega]
    exact h3 (k + 1) (by omega) j hj
  · have := g4 j hj
    rw [Nat.zero_add] at this
    rw [m_up_ne (by omega), this]
    have h5 := h3 0 (by omega) j hj
    rwa [show 29 * (n + 1 - 1 - 0) + j = 29 * n + j by omega] at h5
