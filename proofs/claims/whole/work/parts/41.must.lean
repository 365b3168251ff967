/-! asked: must -/
def chN (r : Nat) : Nat → Nat
  | 0 => 1
  | i + 1 => chN r i * (r - (i + 1) + 1) / (i + 1)
def waN (r x m : Nat) : Nat → Nat
  | 0 => 0
  | n + 1 => waN r x m n + chN r (m + n) * x ^ (m + n) * (10 - x) ^ (r - (m + n))
def odN (x : Nat) : Nat → Nat → Nat
  | 0, i => if i = 0 then 1 else 0
  | r + 1, i => odN x r i * (10 - x) + (if i = 0 then 0 else odN x r (i - 1) * x)
def suN (f : Nat → Nat) (m : Nat) : Nat → Nat
  | 0 => 0
  | n + 1 => suN f m n + f (m + n)
def euN : Nat → Nat → Nat → Nat
  | 0, h, _ => h
  | f + 1, h, l => if l = 0 then h else euN f l (h % l)
def euD : Nat → Nat → Nat → Bool
  | 0, _, l => l == 0
  | f + 1, h, l => if l = 0 then true else euD f l (h % l)
def okM (r m x : Nat) : Bool := (suN (odN x r) m (7 - m) == waN r x m (r + 1 - m)) && decide (waN r x m (r + 1 - m) ≤ 1000000) && euD 50 (waN r x m (r + 1 - m)) (10 ^ r) && decide (0 < euN 50 (waN r x m (r + 1 - m)) (10 ^ r)) && decide (euN 50 (waN r x m (r + 1 - m)) (10 ^ r) ≤ 1000000)
theorem okM_all : ∀ r, r < 7 → ∀ m, m < 7 → ∀ x, x < 11 → okM r m x = true := by decide +kernel
theorem chN_b : ∀ r, r < 7 → ∀ i, i < 7 → chN r i ≤ 1000 := by decide +kernel
theorem X_choose (r j : Nat) (hr : r ≤ 6) (hj : j ≤ r) (s : fm_M) : f_X0_choose (nI r) (nI j) s = some (nI (chN r j), s) := by
  obtain ⟨y, h1, h2⟩ := it_go (body := fun (yy : fm_M × Int32 × Int32) => f_X0_choose_4 (nI r) (nI j) yy.1 yy.2.1 yy.2.2) (fun i t => t = (s, nI (chN r i), nI (i + 1))) (fun y => y = (s, nI (chN r j), nI (j + 1))) j (s, 1, 1) (by omega) rfl (by
    rintro i t hi rfl
    left
    refine ⟨_, ?_, rfl⟩
    have b := chN_b r (by omega) i (by omega)
    have b2 : chN r i * (r - (i + 1) + 1) ≤ 1000 * 7 := Nat.mul_le_mul b (by omega)
    dsimp only [f_X0_choose_4]
    simp (disch := omega) only [zl0, zl1, zl2, zl3, zl4, zl5, zl6, zl7, zl8, zl9, zl10, zl11, zl12, zl13, zl17, zl18, zl19, zl20, zl21, zl22, zl23, zl24, zl25, zl26, zl27, zl28, zl29, zl31, zl32, zl40, zl42, zl44, zl48, zl50, zl57, zl58, zl59, zl60, zl65, zl97, zl98, zl99, zl100, zl103, zl104, zl108, zl119, zl126, zl200, zl203, zl255, zl999, zl9999, zl720, zl232, z_add, z_le, z_lt, z_eq, z_clamp, z_in, z_m4, z_m4n, z_m1n, z_b0, z_b1, m_up_eq, m_up_ne, m_upd_eq, m_upd_ne, bd_s, op_s2, Bool.false_eq_true, eq_self, if_true, if_false, if_pos, if_neg, z_sub, z_mul]
    rw [z_div (by omega) (by omega) (by omega)]
    rfl) (by
    rintro t rfl
    refine ⟨_, ?_, rfl⟩
    dsimp only [f_X0_choose_4]
    simp (disch := omega) only [zl0, zl1, zl2, zl3, zl4, zl5, zl6, zl7, zl8, zl9, zl10, zl11, zl12, zl13, zl17, zl18, zl19, zl20, zl21, zl22, zl23, zl24, zl25, zl26, zl27, zl28, zl29, zl31, zl32, zl40, zl42, zl44, zl48, zl50, zl57, zl58, zl59, zl60, zl65, zl97, zl98, zl99, zl100, zl103, zl104, zl108, zl119, zl126, zl200, zl203, zl255, zl999, zl9999, zl720, zl232, z_add, z_le, z_lt, z_eq, z_clamp, z_in, z_m4, z_m4n, z_m1n, z_b0, z_b1, m_up_eq, m_up_ne, m_upd_eq, m_upd_ne, bd_s, op_s2, Bool.false_eq_true, eq_self, if_true, if_false, if_pos, if_neg])
  subst h2
  unfold f_X0_choose
  rw [op_some h1]
theorem X_power (b e : Nat) (he : e ≤ 100) (s : fm_M) : f_X0_power (nI b) (nI e) s = some (nI (b ^ e), s) := by
  obtain ⟨y, h1, h2⟩ := it_go (body := fun (yy : fm_M × Int32 × Int32) => f_X0_power_4 (nI b) (nI e) yy.1 yy.2.1 yy.2.2) (fun i t => t = (s, nI (b ^ i), nI i)) (fun y => y = (s, nI (b ^ e), nI e)) e (s, 1, 0) (by omega) rfl (by
    rintro i t hi rfl
    left
    refine ⟨_, ?_, rfl⟩
    dsimp only [f_X0_power_4]
    simp (disch := omega) only [zl0, zl1, zl2, zl3, zl4, zl5, zl6, zl7, zl8, zl9, zl10, zl11, zl12, zl13, zl17, zl18, zl19, zl20, zl21, zl22, zl23, zl24, zl25, zl26, zl27, zl28, zl29, zl31, zl32, zl40, zl42, zl44, zl48, zl50, zl57, zl58, zl59, zl60, zl65, zl97, zl98, zl99, zl100, zl103, zl104, zl108, zl119, zl126, zl200, zl203, zl255, zl999, zl9999, zl720, zl232, z_add, z_le, z_lt, z_eq, z_clamp, z_in, z_m4, z_m4n, z_m1n, z_b0, z_b1, m_up_eq, m_up_ne, m_upd_eq, m_upd_ne, bd_s, op_s2, Bool.false_eq_true, eq_self, if_true, if_false, if_pos, if_neg, z_mul, Nat.pow_succ]) (by
    rintro t rfl
    refine ⟨_, ?_, rfl⟩
    dsimp only [f_X0_power_4]
    simp (disch := omega) only [zl0, zl1, zl2, zl3, zl4, zl5, zl6, zl7, zl8, zl9, zl10, zl11, zl12, zl13, zl17, zl18, zl19, zl20, zl21, zl22, zl23, zl24, zl25, zl26, zl27, zl28, zl29, zl31, zl32, zl40, zl42, zl44, zl48, zl50, zl57, zl58, zl59, zl60, zl65, zl97, zl98, zl99, zl100, zl103, zl104, zl108, zl119, zl126, zl200, zl203, zl255, zl999, zl9999, zl720, zl232, z_add, z_le, z_lt, z_eq, z_clamp, z_in, z_m4, z_m4n, z_m1n, z_b0, z_b1, m_up_eq, m_up_ne, m_upd_eq, m_upd_ne, bd_s, op_s2, Bool.false_eq_true, eq_self, if_true, if_false, if_pos, if_neg])
  subst h2
  unfold f_X0_power
  rw [op_some h1]
theorem X_ways (r m x : Nat) (hr : r ≤ 6) (hm : m ≤ 6) (hx : x ≤ 10) (s : fm_M) : f_X0_waysOfSoMany (nI r) (nI m) (nI x) s = some (nI (waN r x m (r + 1 - m)), s) := by
  obtain ⟨y, h1, h2⟩ := it_go (body := fun (yy : fm_M × Int32 × Int32) => f_X0_waysOfSoMany_5 (nI r) (nI x) yy.1 yy.2.1 yy.2.2) (fun i t => t = (s, nI (waN r x m i), nI (m + i))) (fun y => y = (s, nI (waN r x m (r + 1 - m)), nI (m + (r + 1 - m)))) (r + 1 - m) (s, 0, nI m) (by omega) rfl (by
    rintro i t hi rfl
    left
    refine ⟨_, ?_, rfl⟩
    have q1 := X_choose r (m + i) hr (by omega) s
    have q2 := X_power x (m + i) (by omega) s
    have q3 := X_power (10 - x) (r - (m + i)) (by omega) s
    dsimp only [f_X0_waysOfSoMany_5]
    simp (disch := omega) only [zl0, zl1, zl2, zl3, zl4, zl5, zl6, zl7, zl8, zl9, zl10, zl11, zl12, zl13, zl17, zl18, zl19, zl20, zl21, zl22, zl23, zl24, zl25, zl26, zl27, zl28, zl29, zl31, zl32, zl40, zl42, zl44, zl48, zl50, zl57, zl58, zl59, zl60, zl65, zl97, zl98, zl99, zl100, zl103, zl104, zl108, zl119, zl126, zl200, zl203, zl255, zl999, zl9999, zl720, zl232, z_add, z_le, z_lt, z_eq, z_clamp, z_in, z_m4, z_m4n, z_m1n, z_b0, z_b1, m_up_eq, m_up_ne, m_upd_eq, m_upd_ne, bd_s, op_s2, Bool.false_eq_true, eq_self, if_true, if_false, if_pos, if_neg, z_sub, q1, q2, q3, z_mul, waN, Nat.add_assoc]) (by
    rintro t rfl
    refine ⟨_, ?_, rfl⟩
    dsimp only [f_X0_waysOfSoMany_5]
    simp (disch := omega) only [zl0, zl1, zl2, zl3, zl4, zl5, zl6, zl7, zl8, zl9, zl10, zl11, zl12, zl13, zl17, zl18, zl19, zl20, zl21, zl22, zl23, zl24, zl25, zl26, zl27, zl28, zl29, zl31, zl32, zl40, zl42, zl44, zl48, zl50, zl57, zl58, zl59, zl60, zl65, zl97, zl98, zl99, zl100, zl103, zl104, zl108, zl119, zl126, zl200, zl203, zl255, zl999, zl9999, zl720, zl232, z_add, z_le, z_lt, z_eq, z_clamp, z_in, z_m4, z_m4n, z_m1n, z_b0, z_b1, m_up_eq, m_up_ne, m_upd_eq, m_upd_ne, bd_s, op_s2, Bool.false_eq_true, eq_self, if_true, if_false, if_pos, if_neg])
  subst h2
  unfold f_X0_waysOfSoMany
  rw [op_some h1]
theorem X_common (w d : Nat) (hw : w ≤ 1000000) (hd : d ≤ 1000000) (s : fm_M) (ok : euD 50 w d = true) : f_X0_commonDivisor (nI w) (nI d) s = some (nI (euN 50 w d), s) := by
  obtain ⟨y, h1, a, b, h2⟩ := it_go (body := fun (yy : fm_M × Int32 × Int32 × Int32) => f_X0_commonDivisor_7 yy.1 yy.2.1 yy.2.2.1 yy.2.2.2) (fun i t => ∃ h l, t = (s, nI h, nI l, nI i) ∧ h ≤ 1000000 ∧ l ≤ 1000000 ∧ euD (50 - i) h l = true ∧ euN (50 - i) h l = euN 50 w d) (fun y => ∃ a b, y = (s, nI (euN 50 w d), a, b)) 50 (s, nI w, nI d, 0) (by omega) ⟨w, d, rfl, hw, hd, ok, rfl⟩ (by
    rintro i t hi ⟨h, l, rfl, b1, b2, b3, b4⟩
    obtain ⟨j, hj⟩ : ∃ j, 50 - i = j + 1 := ⟨50 - i - 1, by omega⟩
    rw [hj] at b3 b4
    unfold euD at b3
    rw [euN] at b4
    by_cases e : l = 0
    · right
      rw [if_pos e] at b4
      refine ⟨(s, nI h, nI l, nI i), ?_, nI l, nI i, by rw [b4]⟩
      dsimp only [f_X0_commonDivisor_7]
      simp (disch := omega) only [zl0, zl1, zl2, zl3, zl4, zl5, zl6, zl7, zl8, zl9, zl10, zl11, zl12, zl13, zl17, zl18, zl19, zl20, zl21, zl22, zl23, zl24, zl25, zl26, zl27, zl28, zl29, zl31, zl32, zl40, zl42, zl44, zl48, zl50, zl57, zl58, zl59, zl60, zl65, zl97, zl98, zl99, zl100, zl103, zl104, zl108, zl119, zl126, zl200, zl203, zl255, zl999, zl9999, zl720, zl232, z_add, z_le, z_lt, z_eq, z_clamp, z_in, z_m4, z_m4n, z_m1n, z_b0, z_b1, m_up_eq, m_up_ne, m_upd_eq, m_upd_ne, bd_s, op_s2, Bool.false_eq_true, eq_self, if_true, if_false, if_pos, if_neg]
    · left
      rw [if_neg e] at b3 b4
      have hl : h % l < l := Nat.mod_lt _ (by omega)
      refine ⟨(s, nI l, nI (h % l), nI (i + 1)), ?_, l, h % l, rfl, b2, by omega, by rw [show 50 - (i + 1) = j by omega]; exact b3, by rw [show 50 - (i + 1) = j by omega]; exact b4⟩
      dsimp only [f_X0_commonDivisor_7]
      rw [z_rem (by omega) (by omega) (by omega)]
      simp (disch := omega) only [zl0, zl1, zl2, zl3, zl4, zl5, zl6, zl7, zl8, zl9, zl10, zl11, zl12, zl13, zl17, zl18, zl19, zl20, zl21, zl22, zl23, zl24, zl25, zl26, zl27, zl28, zl29, zl31, zl32, zl40, zl42, zl44, zl48, zl50, zl57, zl58, zl59, zl60, zl65, zl97, zl98, zl99, zl100, zl103, zl104, zl108, zl119, zl126, zl200, zl203, zl255, zl999, zl9999, zl720, zl232, z_add, z_le, z_lt, z_eq, z_clamp, z_in, z_m4, z_m4n, z_m1n, z_b0, z_b1, m_up_eq, m_up_ne, m_upd_eq, m_upd_ne, bd_s, op_s2, Bool.false_eq_true, eq_self, if_true, if_false, if_pos, if_neg]) (by
    rintro t ⟨h, l, rfl, b1, b2, b3, b4⟩
    refine ⟨(s, nI h, nI l, nI 50), ?_, nI l, nI 50, by rw [← b4]; rfl⟩
    dsimp only [f_X0_commonDivisor_7]
    simp (disch := omega) only [zl0, zl1, zl2, zl3, zl4, zl5, zl6, zl7, zl8, zl9, zl10, zl11, zl12, zl13, zl17, zl18, zl19, zl20, zl21, zl22, zl23, zl24, zl25, zl26, zl27, zl28, zl29, zl31, zl32, zl40, zl42, zl44, zl48, zl50, zl57, zl58, zl59, zl60, zl65, zl97, zl98, zl99, zl100, zl103, zl104, zl108, zl119, zl126, zl200, zl203, zl255, zl999, zl9999, zl720, zl232, z_add, z_le, z_lt, z_eq, z_clamp, z_in, z_m4, z_m4n, z_m1n, z_b0, z_b1, m_up_eq, m_up_ne, m_upd_eq, m_upd_ne, bd_s, op_s2, Bool.false_eq_true, eq_self, if_true, if_false, if_pos, if_neg])
  subst h2
  unfold f_X0_commonDivisor f_X0_commonDivisor_34
  rw [op_some h1]
theorem M_euclid (v3 v4 v5 : Int32) (w d : Nat) (hw : w ≤ 1000000) (hd : d ≤ 1000000) (s : fm_M) (ok : euD 50 w d = true) : ∃ b, fm_it (fun (yy : fm_M × Int32 × Int32) => f_X9_must_187 v3 v4 v5 yy.1 yy.2.1 yy.2.2) fm_fu (s, nI w, nI d) = some (s, nI (euN 50 w d), b) := by
  obtain ⟨y, h1, b, h2⟩ := it_go (body := fun (yy : fm_M × Int32 × Int32) => f_X9_must_187 v3 v4 v5 yy.1 yy.2.1 yy.2.2) (fun i t => ∃ h l, t = (s, nI h, nI l) ∧ h ≤ 1000000 ∧ l ≤ 1000000 ∧ euD (50 - i) h l = true ∧ euN (50 - i) h l = euN 50 w d) (fun y => ∃ b, y = (s, nI (euN 50 w d), b)) 50 (s, nI w, nI d) (by omega) ⟨w, d, rfl, hw, hd, ok, rfl⟩ (by
    rintro i t hi ⟨h, l, rfl, b1, b2, b3, b4⟩
    obtain ⟨j, hj⟩ : ∃ j, 50 - i = j + 1 := ⟨50 - i - 1, by omega⟩
    rw [hj] at b3 b4
    unfold euD at b3
    rw [euN] at b4
    by_cases e : l = 0
    · right
      rw [if_pos e] at b4
      refine ⟨(s, nI h, nI l), ?_, nI l, by rw [b4]⟩
      dsimp only [f_X9_must_187]
      simp (disch := omega) only [zl0, zl1, zl2, zl3, zl4, zl5, zl6, zl7, zl8, zl9, zl10, zl11, zl12, zl13, zl17, zl18, zl19, zl20, zl21, zl22, zl23, zl24, zl25, zl26, zl27, zl28, zl29, zl31, zl32, zl40, zl42, zl44, zl48, zl50, zl57, zl58, zl59, zl60, zl65, zl97, zl98, zl99, zl100, zl103, zl104, zl108, zl119, zl126, zl200, zl203, zl255, zl999, zl9999, zl720, zl232, z_add, z_le, z_lt, z_eq, z_clamp, z_in, z_m4, z_m4n, z_m1n, z_b0, z_b1, m_up_eq, m_up_ne, m_upd_eq, m_upd_ne, bd_s, op_s2, Bool.false_eq_true, eq_self, if_true, if_false, if_pos, if_neg]
    · left
      rw [if_neg e] at b3 b4
      have hl : h % l < l := Nat.mod_lt _ (by omega)
      refine ⟨(s, nI l, nI (h % l)), ?_, l, h % l, rfl, b2, by omega, by rw [show 50 - (i + 1) = j by omega]; exact b3, by rw [show 50 - (i + 1) = j by omega]; exact b4⟩
      dsimp only [f_X9_must_187]
      rw [z_rem (by omega) (by omega) (by omega)]
      simp (disch := omega) only [zl0, zl1, zl2, zl3, zl4, zl5, zl6, zl7, zl8, zl9, zl10, zl11, zl12, zl13, zl17, zl18, zl19, zl20, zl21, zl22, zl23, zl24, zl25, zl26, zl27, zl28, zl29, zl31, zl32, zl40, zl42, zl44, zl48, zl50, zl57, zl58, zl59, zl60, zl65, zl97, zl98, zl99, zl100, zl103, zl104, zl108, zl119, zl126, zl200, zl203, zl255, zl999, zl9999, zl720, zl232, z_add, z_le, z_lt, z_eq, z_clamp, z_in, z_m4, z_m4n, z_m1n, z_b0, z_b1, m_up_eq, m_up_ne, m_upd_eq, m_upd_ne, bd_s, op_s2, Bool.false_eq_true, eq_self, if_true, if_false, if_pos, if_neg]) (by
    rintro t ⟨h, l, rfl, b1, b2, b3, b4⟩
    have hl : l = 0 := by simpa [euD] using b3
    refine ⟨(s, nI h, nI l), ?_, nI l, by rw [← b4]; rfl⟩
    dsimp only [f_X9_must_187]
    simp (disch := omega) only [zl0, zl1, zl2, zl3, zl4, zl5, zl6, zl7, zl8, zl9, zl10, zl11, zl12, zl13, zl17, zl18, zl19, zl20, zl21, zl22, zl23, zl24, zl25, zl26, zl27, zl28, zl29, zl31, zl32, zl40, zl42, zl44, zl48, zl50, zl57, zl58, zl59, zl60, zl65, zl97, zl98, zl99, zl100, zl103, zl104, zl108, zl119, zl126, zl200, zl203, zl255, zl999, zl9999, zl720, zl232, z_add, z_le, z_lt, z_eq, z_clamp, z_in, z_m4, z_m4n, z_m1n, z_b0, z_b1, m_up_eq, m_up_ne, m_upd_eq, m_upd_ne, bd_s, op_s2, Bool.false_eq_true, eq_self, if_true, if_false, if_pos, if_neg])
  exact ⟨b, by rw [h1, h2]⟩
def OD (f : Nat → Nat) (m0 m : fm_M) : Prop := (∀ i, i < 7 → m 10 i = nI (f i)) ∧ ∀ c, ¬ c = 10 → m c = m0 c
theorem M_odds0 (v1 v2 v3 v4 : Int32) (m : fm_M) : ∃ m', fm_it (fun (yy : fm_M × Int32) => f_X9_must_37 v1 v2 v3 v4 yy.1 yy.2) fm_fu (m, 0) = some (m', nI 7) ∧ OD (odN 0 0) m m' := by
  obtain ⟨y, h1, m', h2, h3⟩ := it_go (body := fun (yy : fm_M × Int32) => f_X9_must_37 v1 v2 v3 v4 yy.1 yy.2) (fun k t => ∃ m', t = (m', nI k) ∧ (∀ i, i < k → m' 10 i = nI (odN 0 0 i)) ∧ ∀ c, ¬ c = 10 → m' c = m c) (fun y => ∃ m', y = (m', nI 7) ∧ OD (odN 0 0) m m') 7 (m, 0) (by omega) ⟨m, rfl, fun i h => by omega, fun c _ => rfl⟩ (by
    rintro k t hk ⟨m', rfl, a1, a2⟩
    left
    refine ⟨(fm_up m' 10 k (nI (odN 0 0 k)), nI (k + 1)), ?_, _, rfl, fun i hi => ?_, fun c hc => ?_⟩
    · dsimp only [f_X9_must_37, f_X9_must_60]
      by_cases e : k = 0
      · subst e
        simp (disch := omega) only [zl0, zl1, zl2, zl3, zl4, zl5, zl6, zl7, zl8, zl9, zl10, zl11, zl12, zl13, zl17, zl18, zl19, zl20, zl21, zl22, zl23, zl24, zl25, zl26, zl27, zl28, zl29, zl31, zl32, zl40, zl42, zl44, zl48, zl50, zl57, zl58, zl59, zl60, zl65, zl97, zl98, zl99, zl100, zl103, zl104, zl108, zl119, zl126, zl200, zl203, zl255, zl999, zl9999, zl720, zl232, z_add, z_le, z_lt, z_eq, z_clamp, z_in, z_m4, z_m4n, z_m1n, z_b0, z_b1, m_up_eq, m_up_ne, m_upd_eq, m_upd_ne, bd_s, op_s2, Bool.false_eq_true, eq_self, if_true, if_false, if_pos, if_neg, odN]
      · simp (disch := omega) only [zl0, zl1, zl2, zl3, zl4, zl5, zl6, zl7, zl8, zl9, zl10, zl11, zl12, zl13, zl17, zl18, zl19, zl20, zl21, zl22, zl23, zl24, zl25, zl26, zl27, zl28, zl29, zl31, zl32, zl40, zl42, zl44, zl48, zl50, zl57, zl58, zl59, zl60, zl65, zl97, zl98, zl99, zl100, zl103, zl104, zl108, zl119, zl126, zl200, zl203, zl255, zl999, zl9999, zl720, zl232, z_add, z_le, z_lt, z_eq, z_clamp, z_in, z_m4, z_m4n, z_m1n, z_b0, z_b1, m_up_eq, m_up_ne, m_upd_eq, m_upd_ne, bd_s, op_s2, Bool.false_eq_true, eq_self, if_true, if_false, if_pos, if_neg, odN]
    · rw [m_up_eq]
      by_cases e : i = k
      · subst e; rw [m_upd_eq]
      · rw [m_upd_ne e]; exact a1 i (by omega)
    · rw [m_up_ne hc]; exact a2 c hc) (by
    rintro t ⟨m', rfl, a1, a2⟩
    refine ⟨(m', nI 7), ?_, m', rfl, a1, a2⟩
    dsimp only [f_X9_must_37]
    simp (disch := omega) only [zl0, zl1, zl2, zl3, zl4, zl5, zl6, zl7, zl8, zl9, zl10, zl11, zl12, zl13, zl17, zl18, zl19, zl20, zl21, zl22, zl23, zl24, zl25, zl26, zl27, zl28, zl29, zl31, zl32, zl40, zl42, zl44, zl48, zl50, zl57, zl58, zl59, zl60, zl65, zl97, zl98, zl99, zl100, zl103, zl104, zl108, zl119, zl126, zl200, zl203, zl255, zl999, zl9999, zl720, zl232, z_add, z_le, z_lt, z_eq, z_clamp, z_in, z_m4, z_m4n, z_m1n, z_b0, z_b1, m_up_eq, m_up_ne, m_upd_eq, m_upd_ne, bd_s, op_s2, Bool.false_eq_true, eq_self, if_true, if_false, if_pos, if_neg])
  exact ⟨m', by rw [h1, h2], h3⟩
theorem M_odds1 (v1 v3 v4 v5 : Int32) (x r : Nat) (hx : x ≤ 10) (m0 m : fm_M) (h : OD (odN x r) m0 m) : ∃ m' b, fm_it (fun (yy : fm_M × Int32) => f_X9_must_91 v1 (nI x) v3 v4 v5 yy.1 yy.2) fm_fu (m, 6) = some (m', b) ∧ OD (odN x (r + 1)) m0 m' := by
  obtain ⟨y, h1, m', b, h2, h3⟩ := it_go (body := fun (yy : fm_M × Int32) => f_X9_must_91 v1 (nI x) v3 v4 v5 yy.1 yy.2) (fun k t => ∃ m', t = (m', nI 6 - nI k) ∧ (∀ i, i < 7 → m' 10 i = nI (if 6 < i + k then odN x (r + 1) i else odN x r i)) ∧ ∀ c, ¬ c = 10 → m' c = m0 c) (fun y => ∃ m' b, y = (m', b) ∧ OD (odN x (r + 1)) m0 m') 7 (m, 6) (by omega) ⟨m, rfl, fun i hi => by rw [if_neg (by omega)]; exact h.1 i hi, h.2⟩ (by
    rintro k t hk ⟨m', rfl, a1, a2⟩
    left
    have hs : nI 6 - nI k = nI (6 - k) := z_sub (by omega)
    refine ⟨(fm_up m' 10 (6 - k) (nI (odN x (r + 1) (6 - k))), nI 6 - nI (k + 1)), ?_, _, rfl, fun i hi => ?_, fun c hc => ?_⟩
    · have b1 := a1 (6 - k) (by omega)
      rw [if_neg (by omega)] at b1
      have hd : nI (6 - k) + (-1) = nI 6 - nI (k + 1) := (show ∀ k, k < 7 → nI (6 - k) + (-1) = nI 6 - nI (k + 1) by decide) k hk
      have hd' : nI (6 - k) + (-nI 1) = nI 6 - nI (k + 1) := hd
      rw [hs]
      dsimp only [f_X9_must_91, f_X9_must_134]
      by_cases e : 6 - k = 0
      · rw [e] at b1 hd hd' ⊢
        simp (disch := omega) only [zl0, zl1, zl2, zl3, zl4, zl5, zl6, zl7, zl8, zl9, zl10, zl11, zl12, zl13, zl17, zl18, zl19, zl20, zl21, zl22, zl23, zl24, zl25, zl26, zl27, zl28, zl29, zl31, zl32, zl40, zl42, zl44, zl48, zl50, zl57, zl58, zl59, zl60, zl65, zl97, zl98, zl99, zl100, zl103, zl104, zl108, zl119, zl126, zl200, zl203, zl255, zl999, zl9999, zl720, zl232, z_add, z_le, z_lt, z_eq, z_clamp, z_in, z_m4, z_m4n, z_m1n, z_b0, z_b1, m_up_eq, m_up_ne, m_upd_eq, m_upd_ne, bd_s, op_s2, Bool.false_eq_true, eq_self, if_true, if_false, if_pos, if_neg, odN, b1, z_mul, z_sub, hd, hd']
      · have b2 := a1 (6 - k - 1) (by omega)
        rw [if_neg (by omega)] at b2
        rw [show odN x (r + 1) (6 - k) = odN x r (6 - k) * (10 - x) + odN x r (6 - k - 1) * x by rw [odN, if_neg e]]
        simp (disch := omega) only [zl0, zl1, zl2, zl3, zl4, zl5, zl6, zl7, zl8, zl9, zl10, zl11, zl12, zl13, zl17, zl18, zl19, zl20, zl21, zl22, zl23, zl24, zl25, zl26, zl27, zl28, zl29, zl31, zl32, zl40, zl42, zl44, zl48, zl50, zl57, zl58, zl59, zl60, zl65, zl97, zl98, zl99, zl100, zl103, zl104, zl108, zl119, zl126, zl200, zl203, zl255, zl999, zl9999, zl720, zl232, z_add, z_le, z_lt, z_eq, z_clamp, z_in, z_m4, z_m4n, z_m1n, z_b0, z_b1, m_up_eq, m_up_ne, m_upd_eq, m_upd_ne, bd_s, op_s2, Bool.false_eq_true, eq_self, if_true, if_false, if_pos, if_neg, b1, b2, z_mul, z_sub, hd, hd']
    · rw [m_up_eq]
      by_cases e : i = 6 - k
      · rw [e, m_upd_eq, if_pos (by omega)]
      · rw [m_upd_ne e, a1 i hi]
        by_cases e2 : 6 < i + k
        · rw [if_pos e2, if_pos (by omega)]
        · rw [if_neg e2, if_neg (by omega)]
    · rw [m_up_ne hc]; exact a2 c hc) (by
    rintro t ⟨m', rfl, a1, a2⟩
    refine ⟨(m', nI 6 - nI 7), ?_, m', _, rfl, fun i hi => by rw [a1 i hi, if_pos (by omega)], a2⟩
    dsimp only [f_X9_must_91]
    rw [if_pos (by decide)])
  exact ⟨m', b, by rw [h1, h2], h3⟩
theorem M_odds {p σ : Nat → Nat} {m0 m : fm_M} (hp : PI p) (hR : RM p σ m0) (hH : HI p σ) (v1 v3 : Int32) (x : Nat) (hx : x ≤ 10) (h : OD (odN x 0) m0 m) : ∃ m' b, fm_it (fun (yy : fm_M × Int32 × Int32) => f_X9_must_70 v1 (nI x) v3 yy.1 yy.2.1 yy.2.2) fm_fu (m, 1, 0) = some (m', nI (10 ^ (hc σ 0 2 (p 0))), b) ∧ OD (odN x (hc σ 0 2 (p 0))) m0 m' := by
  have hl := hc_le σ 0 2 (p 0)
  have hp0 := hp.2.2.1
  have rm : ∀ {f m}, OD f m0 m → RM p σ m := fun h => ⟨fun j hj => by rw [h.2 2 (by omega)]; exact hR.1 j hj, fun j hj => by rw [h.2 4 (by omega)]; exact hR.2 j hj⟩
  obtain ⟨y, h1, m', b, h2, h3⟩ := it_go (body := fun (yy : fm_M × Int32 × Int32) => f_X9_must_70 v1 (nI x) v3 yy.1 yy.2.1 yy.2.2) (fun k t => ∃ m', t = (m', nI (10 ^ k), nI k) ∧ OD (odN x k) m0 m') (fun y => ∃ m' b, y = (m', nI (10 ^ (hc σ 0 2 (p 0))), b) ∧ OD (odN x (hc σ 0 2 (p 0))) m0 m') (hc σ 0 2 (p 0)) (m, 1, 0) (by omega) ⟨m, rfl, h⟩ (by
    rintro k t hk ⟨m', rfl, a1⟩
    left
    have mc : f_X9_children (2 : Int32) m' = _ := M_children hp (rm a1) hH 2 (by omega)
    obtain ⟨m2, b, g1, g2⟩ := M_odds1 v1 v3 (nI (10 ^ k) * 10) (nI k) x k hx m0 m' a1
    refine ⟨(m2, nI (10 ^ (k + 1)), nI (k + 1)), ?_, m2, rfl, g2⟩
    dsimp only [f_X9_must_70]
    rw [bd_some mc, if_neg (by rw [z_le (by omega) (by omega)]; omega), op_some g1]
    dsimp only
    rw [show (10 : Int32) = nI 10 from rfl, z_mul, show (1 : Int32) = nI 1 from rfl, z_add, Nat.pow_succ]) (by
    rintro t ⟨m', rfl, a1⟩
    have mc : f_X9_children (2 : Int32) m' = _ := M_children hp (rm a1) hH 2 (by omega)
    refine ⟨(m', nI (10 ^ (hc σ 0 2 (p 0))), nI (hc σ 0 2 (p 0))), ?_, m', _, rfl, a1⟩
    dsimp only [f_X9_must_70]
    rw [bd_some mc, if_pos (by rw [z_le (by omega) (by omega)]; omega)])
  exact ⟨m', b, by rw [h1, h2], h3⟩
theorem M_sum (v3 v4 : Int32) (f : Nat → Nat) (i : Nat) (hi : i ≤ 6) (m0 m : fm_M) (h : OD f m0 m) : ∃ b, fm_it (fun (yy : fm_M × Int32 × Int32) => f_X9_must_154 v3 v4 yy.1 yy.2.1 yy.2.2) fm_fu (m, 0, nI i) = some (m, nI (suN f i (7 - i)), b) := by
  obtain ⟨y, h1, h2⟩ := it_go (body := fun (yy : fm_M × Int32 × Int32) => f_X9_must_154 v3 v4 yy.1 yy.2.1 yy.2.2) (fun k t => t = (m, nI (suN f i k), nI (i + k))) (fun y => y = (m, nI (suN f i (7 - i)), nI (i + (7 - i)))) (7 - i) (m, 0, nI i) (by omega) rfl (by
    rintro k t hk rfl
    left
    have b1 := h.1 (i + k) (by omega)
    refine ⟨_, ?_, rfl⟩
    dsimp only [f_X9_must_154]
    simp (disch := omega) only [zl0, zl1, zl2, zl3, zl4, zl5, zl6, zl7, zl8, zl9, zl10, zl11, zl12, zl13, zl17, zl18, zl19, zl20, zl21, zl22, zl23, zl24, zl25, zl26, zl27, zl28, zl29, zl31, zl32, zl40, zl42, zl44, zl48, zl50, zl57, zl58, zl59, zl60, zl65, zl97, zl98, zl99, zl100, zl103, zl104, zl108, zl119, zl126, zl200, zl203, zl255, zl999, zl9999, zl720, zl232, z_add, z_le, z_lt, z_eq, z_clamp, z_in, z_m4, z_m4n, z_m1n, z_b0, z_b1, m_up_eq, m_up_ne, m_upd_eq, m_upd_ne, bd_s, op_s2, Bool.false_eq_true, eq_self, if_true, if_false, if_pos, if_neg, b1, suN, Nat.add_assoc]) (by
    rintro t rfl
    refine ⟨_, ?_, rfl⟩
    dsimp only [f_X9_must_154]
    simp (disch := omega) only [zl0, zl1, zl2, zl3, zl4, zl5, zl6, zl7, zl8, zl9, zl10, zl11, zl12, zl13, zl17, zl18, zl19, zl20, zl21, zl22, zl23, zl24, zl25, zl26, zl27, zl28, zl29, zl31, zl32, zl40, zl42, zl44, zl48, zl50, zl57, zl58, zl59, zl60, zl65, zl97, zl98, zl99, zl100, zl103, zl104, zl108, zl119, zl126, zl200, zl203, zl255, zl999, zl9999, zl720, zl232, z_add, z_le, z_lt, z_eq, z_clamp, z_in, z_m4, z_m4n, z_m1n, z_b0, z_b1, m_up_eq, m_up_ne, m_upd_eq, m_upd_ne, bd_s, op_s2, Bool.false_eq_true, eq_self, if_true, if_false, if_pos, if_neg])
  exact ⟨_, by rw [h1, h2]⟩
theorem inR (v : Int32) (a b : Nat) (ha : a < 2147483648) (hb : b < 2147483648) : (v < nI a ∧ (decide (nI a ≤ v) && decide (v ≤ nI b)) = false) ∨ (¬ v < nI a ∧ nI b < v ∧ ¬ v ≤ nI b ∧ (decide (nI a ≤ v) && decide (v ≤ nI b)) = false) ∨ (∃ n, a ≤ n ∧ n ≤ b ∧ v = nI n ∧ (decide (nI a ≤ v) && decide (v ≤ nI b)) = true) := by
  by_cases e1 : v < nI a
  · left
    have : ¬ nI a ≤ v := by rw [Int32.not_le]; exact e1
    exact ⟨e1, by rw [decide_eq_false this]; rfl⟩
  · right
    have e1' : nI a ≤ v := Int32.not_lt.mp e1
    by_cases e2 : nI b < v
    · left
      have : ¬ v ≤ nI b := by rw [Int32.not_le]; exact e2
      exact ⟨e1, e2, this, by rw [decide_eq_false this, Bool.and_false]⟩
    · right
      have e2' : v ≤ nI b := Int32.not_lt.mp e2
      obtain ⟨n, n1, n2, e⟩ := z_rng ha hb e1' e2'
      exact ⟨n, n1, n2, e, by rw [decide_eq_true e1', decide_eq_true e2']; rfl⟩
theorem R_must {k : Nat} {x m : fm_M} (h : Rel k x m) (hk : k < 1000) (v1 v2 v3 : Int32) : Good k (f_X8_must v1 v2 v3 x) (f_X9_must v1 v2 v3 m) := by
  have hrel := h
  obtain ⟨p, σ, t, tn, H, hn, K, kn, sc, sn, sl, sq, ch, hI, hX, hM⟩ := h
  have hp := hI.1
  have hH := hI.2.1
  have hp0 := hp.2.2.1
  have mi1 : f_X9_in v1 0 6 m = _ := M_in v1 (nI 0) (nI 6) m
  have mi2 : f_X9_in v2 0 10 m = _ := M_in v2 (nI 0) (nI 10) m
  have mi3 : f_X9_in v3 0 1 m = _ := M_in v3 (nI 0) (nI 1) m
  rcases inR v1 0 6 (by omega) (by omega) with ⟨a1, a2⟩ | ⟨a1, a2, a3, a4⟩ | ⟨i, i1, i2, rfl, a2⟩
  · rw [a2] at mi1
    refine Good.same hrel hk (r := -1) ?_ ?_
    · unfold f_X8_must f_X8_must_29
      rw [if_pos (show v1 < 0 from a1)]
    · unfold f_X9_must f_X9_must_29
      rw [bd_some mi1, if_pos (by decide)]
  · rw [a4] at mi1
    refine Good.same hrel hk (r := -1) ?_ ?_
    · unfold f_X8_must f_X8_must_29
      rw [if_neg (show ¬ v1 < 0 from a1), if_pos (show 6 < v1 from a2)]
    · unfold f_X9_must f_X9_must_29
      rw [bd_some mi1, if_pos (by decide)]
  rw [a2] at mi1
  have x1 : ¬ nI i < 0 := by rw [show (0 : Int32) = nI 0 from rfl, z_lt (by omega) (by omega)]; omega
  have x2 : ¬ (6 : Int32) < nI i := by rw [show (6 : Int32) = nI 6 from rfl, z_lt (by omega) (by omega)]; omega
  rcases inR v2 0 10 (by omega) (by omega) with ⟨b1, b2⟩ | ⟨b1, b2, b3, b4⟩ | ⟨j, j1, j2, rfl, b2⟩
  · rw [b2] at mi2
    refine Good.same hrel hk (r := -1) ?_ ?_
    · unfold f_X8_must f_X8_must_29
      rw [if_neg x1, if_neg x2, if_pos (show v2 < 0 from b1)]
    · unfold f_X9_must f_X9_must_29
      rw [bd_some mi1, if_neg (by decide), bd_some mi2, if_pos (by decide)]
  · rw [b4] at mi2
    refine Good.same hrel hk (r := -1) ?_ ?_
    · unfold f_X8_must f_X8_must_29
      rw [if_neg x1, if_neg x2, if_neg (show ¬ v2 < 0 from b1), if_pos (show 10 < v2 from b2)]
    · unfold f_X9_must f_X9_must_29
      rw [bd_some mi1, if_neg (by decide), bd_some mi2, if_pos (by decide)]
  rw [b2] at mi2
  have x3 : ¬ nI j < 0 := by rw [show (0 : Int32) = nI 0 from rfl, z_lt (by omega) (by omega)]; omega
  have x4 : ¬ (10 : Int32) < nI j := by rw [show (10 : Int32) = nI 10 from rfl, z_lt (by omega) (by omega)]; omega
  rcases inR v3 0 1 (by omega) (by omega) with ⟨b1, b2⟩ | ⟨b1, b2, b3, b4⟩ | ⟨u, u1, u2, rfl, b2⟩
  · rw [b2] at mi3
    refine Good.same hrel hk (r := -1) ?_ ?_
    · unfold f_X8_must f_X8_must_29
      rw [if_neg x1, if_neg x2, if_neg x3, if_neg x4, if_pos (show v3 < 0 from b1)]
    · unfold f_X9_must f_X9_must_29
      rw [bd_some mi1, if_neg (by decide), bd_some mi2, if_neg (by decide), bd_some mi3, if_pos (by decide)]
  · rw [b4] at mi3
    refine Good.same hrel hk (r := -1) ?_ ?_
    · unfold f_X8_must f_X8_must_29
      rw [if_neg x1, if_neg x2, if_neg x3, if_neg x4, if_neg (show ¬ v3 < 0 from b1), if_neg (show ¬ v3 ≤ 1 from b3)]
    · unfold f_X9_must f_X9_must_29
      rw [bd_some mi1, if_neg (by decide), bd_some mi2, if_neg (by decide), bd_some mi3, if_pos (by decide)]
  rw [b2] at mi3
  have x5 : ¬ nI u < 0 := by rw [show (0 : Int32) = nI 0 from rfl, z_lt (by omega) (by omega)]; omega
  have x6 : nI u ≤ (1 : Int32) := by rw [show (1 : Int32) = nI 1 from rfl, z_le (by omega) (by omega)]; omega
  have hl := hc_le σ 0 2 (p 0)
  have xc : f_X2_countChildren 9 (2 : Int32) x = _ := X_countChildren hp hX.1.1 hX.2.1 hH 2 (by omega)
  have xw := X_ways (hc σ 0 2 (p 0)) i j (by omega) i2 j2 x
  have xp : f_X0_power (10 : Int32) _ x = _ := X_power 10 (hc σ 0 2 (p 0)) (by omega) x
  have ok := okM_all (hc σ 0 2 (p 0)) (by omega) i (by omega) j (by omega)
  unfold okM at ok
  simp only [Bool.and_eq_true, decide_eq_true_eq, beq_iff_eq] at ok
  obtain ⟨⟨⟨⟨o1, o2⟩, o3⟩, o4⟩, o5⟩ := ok
  obtain ⟨r, hr⟩ : ∃ r, r = hc σ 0 2 (p 0) := ⟨_, rfl⟩
  have hd : 10 ^ r ≤ 1000000 := by
    have := Nat.pow_le_pow_right (show 0 < 10 by omega) (show r ≤ 6 by omega)
    omega
  have xg := X_common (waN r j i (r + 1 - i)) (10 ^ r) (by rw [hr]; exact o2) hd x (by rw [hr]; exact o3)
  obtain ⟨m1, e1, e2⟩ := M_odds0 (nI i) (nI j) (nI u) 1 m
  have e2' : OD (odN j 0) m m1 := e2
  obtain ⟨m2, bb, e3, e4⟩ := M_odds hp hM.1 hH (nI i) (nI u) j j2 e2'
  obtain ⟨b3, e5⟩ := M_sum (nI u) (nI (10 ^ r)) _ i i2 m m2 e4
  rw [← hr] at xc xw xp o1 o2 o3 o4 o5 e3 e5
  rw [o1] at e5
  obtain ⟨b4, e6⟩ := M_euclid (nI u) (nI (10 ^ r)) (nI (waN r j i (r + 1 - i))) (waN r j i (r + 1 - i)) (10 ^ r) o2 hd m2 o3
  have ng : ¬ nI (euN 50 (waN r j i (r + 1 - i)) (10 ^ r)) = 0 := by
    rw [show (0 : Int32) = nI 0 from rfl, z_eq (by omega) (by omega)]; omega
  have hM' : MS p σ t tn H hn K kn sc sn sl sq m2 := hM.fr (fun c hc => e4.2 c (by omega)) (fun q hq => by rw [e4.2 4 (by omega)]) (by rw [e4.2 0 (by omega)]; exact ⟨rfl, rfl, rfl, rfl⟩)
  by_cases e0 : nI u = 0
  · refine ⟨nI (waN r j i (r + 1 - i)) / nI (euN 50 (waN r j i (r + 1 - i)) (10 ^ r)), x, m2, ?_, ?_, p, σ, t, tn, H, hn, K, kn, sc, sn, sl, sq, ch, hI.up hk, hX, hM'⟩
    · unfold f_X8_must f_X8_must_87
      rw [if_neg x1, if_neg x2, if_neg x3, if_neg x4, if_neg x5, if_pos x6, bd_some xc, bd_some xw, bd_some xp, bd_some xg, if_neg ng, if_pos e0, if_neg ng]
    · unfold f_X9_must f_X9_must_227
      rw [bd_some mi1, if_neg (by decide), bd_some mi2, if_neg (by decide), bd_some mi3, if_neg (by decide), op_some e1]
      dsimp only
      rw [op_some e3]
      dsimp only
      rw [op_some e5]
      dsimp only
      rw [op_some e6]
      dsimp only
      rw [if_pos e0, if_neg ng]
  · refine ⟨nI (10 ^ r) / nI (euN 50 (waN r j i (r + 1 - i)) (10 ^ r)), x, m2, ?_, ?_, p, σ, t, tn, H, hn, K, kn, sc, sn, sl, sq, ch, hI.up hk, hX, hM'⟩
    · unfold f_X8_must f_X8_must_87
      rw [if_neg x1, if_neg x2, if_neg x3, if_neg x4, if_neg x5, if_pos x6, bd_some xc, bd_some xw, bd_some xp, bd_some xg, if_neg ng, if_neg e0, if_neg ng]
    · unfold f_X9_must f_X9_must_227
      rw [bd_some mi1, if_neg (by decide), bd_some mi2, if_neg (by decide), bd_some mi3, if_neg (by decide), op_some e1]
      dsimp only
      rw [op_some e3]
      dsimp only
      rw [op_some e5]
      dsimp only
      rw [op_some e6]
      dsimp only
      rw [if_neg e0, if_neg ng]
