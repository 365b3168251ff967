/-! the class's next row -/
theorem X_swap (i j : Nat) (hi : i < 6) (hj : j < 6) (s : fm_M) : f_X5_swap (nI i) (nI j) s = some (0, fm_up (fm_up s 99 i (s 99 j)) 99 j (s 99 i)) := by
  unfold f_X5_swap f_X5_swap_44
  by_cases e : j < i
  · simp (disch := omega) only [zl0, zl1, zl2, zl3, zl4, zl5, zl6, zl7, zl8, zl9, zl10, zl11, zl12, zl13, zl17, zl18, zl19, zl20, zl21, zl22, zl23, zl24, zl25, zl26, zl27, zl28, zl29, zl31, zl32, zl40, zl42, zl44, zl48, zl50, zl57, zl58, zl59, zl60, zl65, zl97, zl98, zl99, zl100, zl103, zl104, zl108, zl119, zl126, zl200, zl203, zl255, zl999, zl9999, zl720, zl232, z_add, z_le, z_lt, z_eq, z_clamp, z_in, z_m4, z_m4n, z_m1n, z_b0, z_b1, m_up_eq, m_up_ne, m_upd_eq, m_upd_ne, bd_s, op_s2, Bool.false_eq_true, eq_self, if_true, if_false, if_pos, if_neg]
  · by_cases e2 : i < j
    · simp (disch := omega) only [zl0, zl1, zl2, zl3, zl4, zl5, zl6, zl7, zl8, zl9, zl10, zl11, zl12, zl13, zl17, zl18, zl19, zl20, zl21, zl22, zl23, zl24, zl25, zl26, zl27, zl28, zl29, zl31, zl32, zl40, zl42, zl44, zl48, zl50, zl57, zl58, zl59, zl60, zl65, zl97, zl98, zl99, zl100, zl103, zl104, zl108, zl119, zl126, zl200, zl203, zl255, zl999, zl9999, zl720, zl232, z_add, z_le, z_lt, z_eq, z_clamp, z_in, z_m4, z_m4n, z_m1n, z_b0, z_b1, m_up_eq, m_up_ne, m_upd_eq, m_upd_ne, bd_s, op_s2, Bool.false_eq_true, eq_self, if_true, if_false, if_pos, if_neg]
    · simp (disch := omega) only [zl0, zl1, zl2, zl3, zl4, zl5, zl6, zl7, zl8, zl9, zl10, zl11, zl12, zl13, zl17, zl18, zl19, zl20, zl21, zl22, zl23, zl24, zl25, zl26, zl27, zl28, zl29, zl31, zl32, zl40, zl42, zl44, zl48, zl50, zl57, zl58, zl59, zl60, zl65, zl97, zl98, zl99, zl100, zl103, zl104, zl108, zl119, zl126, zl200, zl203, zl255, zl999, zl9999, zl720, zl232, z_add, z_le, z_lt, z_eq, z_clamp, z_in, z_m4, z_m4n, z_m1n, z_b0, z_b1, m_up_eq, m_up_ne, m_upd_eq, m_upd_ne, bd_s, op_s2, Bool.false_eq_true, eq_self, if_true, if_false, if_pos, if_neg]
def RW (n : Nat) (f : Nat → Nat) (s0 s : fm_M) : Prop := (∀ k, k < n → s 99 k = nI (f k)) ∧ (∀ k, n ≤ k → s 99 k = s0 99 k) ∧ ∀ d, ¬ d = 99 → s d = s0 d
theorem RW.sw {n : Nat} {f : Nat → Nat} {s0 s : fm_M} (h : RW n f s0 s) {i j : Nat} (hi : i < n) (hj : j < n) : RW n (swF f i j) s0 (fm_up (fm_up s 99 i (s 99 j)) 99 j (s 99 i)) := by
  obtain ⟨h1, h2, h3⟩ := h
  refine ⟨fun k hk => ?_, fun k hk => ?_, fun d hd => ?_⟩
  · unfold swF
    rw [m_up_eq]
    by_cases e : k = j
    · rw [e, m_upd_eq, un_eq]; exact h1 i hi
    · rw [m_upd_ne e, un_ne e, m_up_eq]
      by_cases e2 : k = i
      · rw [e2, m_upd_eq, un_eq]; exact h1 j hj
      · rw [m_upd_ne e2, un_ne e2]; exact h1 k hk
  · rw [m_up_eq, m_upd_ne (by omega), m_up_eq, m_upd_ne (by omega)]; exact h2 k hk
  · rw [m_up_ne hd, m_up_ne hd]; exact h3 d hd
theorem pvF_le (f : Nat → Nat) : ∀ k, pvF f k ≤ k
  | 0 => Nat.le_refl 0
  | k + 1 => by
    have := pvF_le f k
    unfold pvF
    split <;> omega
theorem sjF_le (f : Nat → Nat) (i : Nat) : ∀ k, sjF f i k ≤ k
  | 0 => Nat.le_refl 0
  | k + 1 => by
    have := sjF_le f i k
    unfold sjF
    split <;> omega
theorem z_dn {k : Nat} : nI (k + 1) + (-1) = nI k := by rw [z_addm1, z_sub (by omega)]; rfl
theorem z_m1s {k : Nat} : nI (k + 1) - nI 1 = nI k := by rw [z_sub (by omega)]; rfl
theorem X_pivot {n : Nat} {f : Nat → Nat} {s : fm_M} (hn : n ≤ 6) (h1n : 1 ≤ n) (hs : ∀ k, k < n → s 99 k = nI (f k)) (hb : ∀ k, k < n → f k < 1000) (v1 : Int32) : fm_it (fun (yy : fm_M × Int32) => f_X5_nextRow_17 v1 yy.1 yy.2) fm_fu (s, nI n - nI 2) = some (s, nI (pvF f (n - 1)) - nI 1) := by
  rw [(show ∀ n, n < 7 → 1 ≤ n → nI n - nI 2 = nI (n - 1) - nI 1 by decide) n (by omega) h1n]
  obtain ⟨y, g1, g2⟩ := it_go (body := fun (yy : fm_M × Int32) => f_X5_nextRow_17 v1 yy.1 yy.2) (fun i t => t = (s, nI (n - 1 - i) - nI 1) ∧ pvF f (n - 1 - i) = pvF f (n - 1)) (fun y => y = (s, nI (pvF f (n - 1)) - nI 1)) (n - 1) (s, nI (n - 1) - nI 1) (by omega) ⟨rfl, rfl⟩ (by
    rintro i t hi ⟨rfl, q⟩
    obtain ⟨k, hk⟩ : ∃ k, n - 1 - i = k + 1 := ⟨n - 1 - i - 1, by omega⟩
    rw [hk] at q ⊢
    have s1 := hs k (by omega)
    have s2 := hs (k + 1) (by omega)
    have b1 := hb k (by omega)
    have b2 := hb (k + 1) (by omega)
    rw [pvF] at q
    by_cases e : f k ≤ f (k + 1)
    · right
      rw [if_pos e] at q
      refine ⟨(s, nI (k + 1) - nI 1), ?_, by rw [← q]⟩
      rw [z_m1s]
      dsimp only [f_X5_nextRow_17]
      simp (disch := omega) only [zl0, zl1, zl2, zl3, zl4, zl5, zl6, zl7, zl8, zl9, zl10, zl11, zl12, zl13, zl17, zl18, zl19, zl20, zl21, zl22, zl23, zl24, zl25, zl26, zl27, zl28, zl29, zl31, zl32, zl40, zl42, zl44, zl48, zl50, zl57, zl58, zl59, zl60, zl65, zl97, zl98, zl99, zl100, zl103, zl104, zl108, zl119, zl126, zl200, zl203, zl255, zl999, zl9999, zl720, zl232, z_add, z_le, z_lt, z_eq, z_clamp, z_in, z_m4, z_m4n, z_m1n, z_b0, z_b1, m_up_eq, m_up_ne, m_upd_eq, m_upd_ne, bd_s, op_s2, Bool.false_eq_true, eq_self, if_true, if_false, if_pos, if_neg, s1, s2]
    · left
      rw [if_neg e] at q
      refine ⟨(s, nI k - nI 1), ?_, by rw [show n - 1 - (i + 1) = k by omega], by rw [show n - 1 - (i + 1) = k by omega]; exact q⟩
      rw [z_m1s]
      dsimp only [f_X5_nextRow_17]
      rw [z_addm1]
      simp (disch := omega) only [zl0, zl1, zl2, zl3, zl4, zl5, zl6, zl7, zl8, zl9, zl10, zl11, zl12, zl13, zl17, zl18, zl19, zl20, zl21, zl22, zl23, zl24, zl25, zl26, zl27, zl28, zl29, zl31, zl32, zl40, zl42, zl44, zl48, zl50, zl57, zl58, zl59, zl60, zl65, zl97, zl98, zl99, zl100, zl103, zl104, zl108, zl119, zl126, zl200, zl203, zl255, zl999, zl9999, zl720, zl232, z_add, z_le, z_lt, z_eq, z_clamp, z_in, z_m4, z_m4n, z_m1n, z_b0, z_b1, m_up_eq, m_up_ne, m_upd_eq, m_upd_ne, bd_s, op_s2, Bool.false_eq_true, eq_self, if_true, if_false, if_pos, if_neg, s1, s2]) (by
    rintro t ⟨rfl, q⟩
    rw [Nat.sub_self] at q ⊢
    refine ⟨(s, nI 0 - nI 1), ?_, by rw [← q, pvF]⟩
    dsimp only [f_X5_nextRow_17]
    rw [if_pos (by decide)])
  rw [g1, g2]
theorem X_partner {n : Nat} {f : Nat → Nat} {s : fm_M} {i : Nat} (hn : n ≤ 6) (h1n : 1 ≤ n) (hi : i < n) (hs : ∀ k, k < n → s 99 k = nI (f k)) (hb : ∀ k, k < n → f k < 1000) (v1 : Int32) : fm_it (fun (yy : fm_M × Int32) => f_X5_nextRow_54 v1 (nI i) yy.1 yy.2) fm_fu (s, nI (n - 1)) = some (s, nI (sjF f i (n - 1))) := by
  obtain ⟨y, g1, g2⟩ := it_go (body := fun (yy : fm_M × Int32) => f_X5_nextRow_54 v1 (nI i) yy.1 yy.2) (fun u t => t = (s, nI (n - 1 - u)) ∧ sjF f i (n - 1 - u) = sjF f i (n - 1)) (fun y => y = (s, nI (sjF f i (n - 1)))) (n - 1) (s, nI (n - 1)) (by omega) ⟨rfl, rfl⟩ (by
    rintro u t hu ⟨rfl, q⟩
    obtain ⟨k, hk⟩ : ∃ k, n - 1 - u = k + 1 := ⟨n - 1 - u - 1, by omega⟩
    rw [hk] at q ⊢
    have s1 := hs i hi
    have s2 := hs (k + 1) (by omega)
    have b1 := hb i hi
    have b2 := hb (k + 1) (by omega)
    rw [sjF] at q
    by_cases e : k + 1 ≤ i
    · right
      rw [if_pos (Or.inl e)] at q
      refine ⟨(s, nI (k + 1)), ?_, by rw [← q]⟩
      dsimp only [f_X5_nextRow_54]
      simp (disch := omega) only [zl0, zl1, zl2, zl3, zl4, zl5, zl6, zl7, zl8, zl9, zl10, zl11, zl12, zl13, zl17, zl18, zl19, zl20, zl21, zl22, zl23, zl24, zl25, zl26, zl27, zl28, zl29, zl31, zl32, zl40, zl42, zl44, zl48, zl50, zl57, zl58, zl59, zl60, zl65, zl97, zl98, zl99, zl100, zl103, zl104, zl108, zl119, zl126, zl200, zl203, zl255, zl999, zl9999, zl720, zl232, z_add, z_le, z_lt, z_eq, z_clamp, z_in, z_m4, z_m4n, z_m1n, z_b0, z_b1, m_up_eq, m_up_ne, m_upd_eq, m_upd_ne, bd_s, op_s2, Bool.false_eq_true, eq_self, if_true, if_false, if_pos, if_neg, s1, s2]
    · by_cases e2 : f i ≤ f (k + 1)
      · right
        rw [if_pos (Or.inr e2)] at q
        refine ⟨(s, nI (k + 1)), ?_, by rw [← q]⟩
        dsimp only [f_X5_nextRow_54]
        simp (disch := omega) only [zl0, zl1, zl2, zl3, zl4, zl5, zl6, zl7, zl8, zl9, zl10, zl11, zl12, zl13, zl17, zl18, zl19, zl20, zl21, zl22, zl23, zl24, zl25, zl26, zl27, zl28, zl29, zl31, zl32, zl40, zl42, zl44, zl48, zl50, zl57, zl58, zl59, zl60, zl65, zl97, zl98, zl99, zl100, zl103, zl104, zl108, zl119, zl126, zl200, zl203, zl255, zl999, zl9999, zl720, zl232, z_add, z_le, z_lt, z_eq, z_clamp, z_in, z_m4, z_m4n, z_m1n, z_b0, z_b1, m_up_eq, m_up_ne, m_upd_eq, m_upd_ne, bd_s, op_s2, Bool.false_eq_true, eq_self, if_true, if_false, if_pos, if_neg, s1, s2]
      · left
        rw [if_neg (by omega)] at q
        refine ⟨(s, nI k), ?_, by rw [show n - 1 - (u + 1) = k by omega], by rw [show n - 1 - (u + 1) = k by omega]; exact q⟩
        dsimp only [f_X5_nextRow_54]
        rw [z_dn]
        simp (disch := omega) only [zl0, zl1, zl2, zl3, zl4, zl5, zl6, zl7, zl8, zl9, zl10, zl11, zl12, zl13, zl17, zl18, zl19, zl20, zl21, zl22, zl23, zl24, zl25, zl26, zl27, zl28, zl29, zl31, zl32, zl40, zl42, zl44, zl48, zl50, zl57, zl58, zl59, zl60, zl65, zl97, zl98, zl99, zl100, zl103, zl104, zl108, zl119, zl126, zl200, zl203, zl255, zl999, zl9999, zl720, zl232, z_add, z_le, z_lt, z_eq, z_clamp, z_in, z_m4, z_m4n, z_m1n, z_b0, z_b1, m_up_eq, m_up_ne, m_upd_eq, m_upd_ne, bd_s, op_s2, Bool.false_eq_true, eq_self, if_true, if_false, if_pos, if_neg, s1, s2]) (by
    rintro t ⟨rfl, q⟩
    rw [Nat.sub_self] at q ⊢
    refine ⟨(s, nI 0), ?_, by rw [← q, sjF]⟩
    dsimp only [f_X5_nextRow_54]
    rw [if_pos (by rw [z_le (by omega) (by omega)]; omega)])
  rw [g1, g2]
theorem X_turnTail {n : Nat} {f : Nat → Nat} {s0 s : fm_M} {lo : Nat} (hn : n ≤ 6) (h1n : 1 ≤ n) (hlo : lo ≤ n) (h : RW n f s0 s) : ∃ s' a b, fm_it (fun (yy : fm_M × Int32 × Int32) => f_X5_nextRow_96 yy.1 yy.2.1 yy.2.2) fm_fu (s, nI (n - 1), nI lo) = some (s', a, b) ∧ RW n (rvF 6 f lo (n - 1)) s0 s' := by
  obtain ⟨y, g1, s', a, b, g2, g3⟩ := it_go (body := fun (yy : fm_M × Int32 × Int32) => f_X5_nextRow_96 yy.1 yy.2.1 yy.2.2) (fun u t => ∃ s' g l2 hi, t = (s', nI hi, nI l2) ∧ RW n g s0 s' ∧ rvF (6 - u) g l2 hi = rvF 6 f lo (n - 1) ∧ hi < n ∧ l2 ≤ 20 ∧ hi ≤ l2 + 2 * (6 - u)) (fun y => ∃ s' a b, y = (s', a, b) ∧ RW n (rvF 6 f lo (n - 1)) s0 s') 6 (s, nI (n - 1), nI lo) (by omega) ⟨s, f, lo, n - 1, rfl, h, rfl, by omega, by omega, by omega⟩ (by
    rintro u t hu ⟨s1, g, l2, hi, rfl, q1, q2, q3, q4, q5⟩
    obtain ⟨w, hw⟩ : ∃ w, 6 - u = w + 1 := ⟨6 - u - 1, by omega⟩
    rw [hw, rvF] at q2
    by_cases e : hi ≤ l2
    · right
      rw [if_pos e] at q2
      refine ⟨(s1, nI hi, nI l2), ?_, s1, _, _, rfl, by rw [← q2]; exact q1⟩
      dsimp only [f_X5_nextRow_96]
      simp (disch := omega) only [zl0, zl1, zl2, zl3, zl4, zl5, zl6, zl7, zl8, zl9, zl10, zl11, zl12, zl13, zl17, zl18, zl19, zl20, zl21, zl22, zl23, zl24, zl25, zl26, zl27, zl28, zl29, zl31, zl32, zl40, zl42, zl44, zl48, zl50, zl57, zl58, zl59, zl60, zl65, zl97, zl98, zl99, zl100, zl103, zl104, zl108, zl119, zl126, zl200, zl203, zl255, zl999, zl9999, zl720, zl232, z_add, z_le, z_lt, z_eq, z_clamp, z_in, z_m4, z_m4n, z_m1n, z_b0, z_b1, m_up_eq, m_up_ne, m_upd_eq, m_upd_ne, bd_s, op_s2, Bool.false_eq_true, eq_self, if_true, if_false, if_pos, if_neg]
    · left
      rw [if_neg e] at q2
      have hsw := X_swap l2 hi (by omega) (by omega) s1
      refine ⟨(_, nI (hi - 1), nI (l2 + 1)), ?_, _, swF g l2 hi, l2 + 1, hi - 1, rfl, q1.sw (by omega) (by omega), by rw [show 6 - (u + 1) = w by omega]; exact q2, by omega, by omega, by omega⟩
      dsimp only [f_X5_nextRow_96]
      rw [if_neg (by rw [z_le (by omega) (by omega)]; exact e), bd_some hsw, z_addm1, z_sub (by omega), show (1 : Int32) = nI 1 from rfl, z_add]) (by
    rintro t ⟨s1, g, l2, hi, rfl, q1, q2, q3, q4, q5⟩
    refine ⟨(s1, nI hi, nI l2), ?_, s1, _, _, rfl, by rw [← q2]; exact q1⟩
    dsimp only [f_X5_nextRow_96]
    simp (disch := omega) only [zl0, zl1, zl2, zl3, zl4, zl5, zl6, zl7, zl8, zl9, zl10, zl11, zl12, zl13, zl17, zl18, zl19, zl20, zl21, zl22, zl23, zl24, zl25, zl26, zl27, zl28, zl29, zl31, zl32, zl40, zl42, zl44, zl48, zl50, zl57, zl58, zl59, zl60, zl65, zl97, zl98, zl99, zl100, zl103, zl104, zl108, zl119, zl126, zl200, zl203, zl255, zl999, zl9999, zl720, zl232, z_add, z_le, z_lt, z_eq, z_clamp, z_in, z_m4, z_m4n, z_m1n, z_b0, z_b1, m_up_eq, m_up_ne, m_upd_eq, m_upd_ne, bd_s, op_s2, Bool.false_eq_true, eq_self, if_true, if_false, if_pos, if_neg])
  exact ⟨s', a, b, by rw [g1, g2], g3⟩
theorem X_nextRow {p f : Nat → Nat} {s : fm_M} (hp : PI p) (hP : RP p s) (hs : ∀ k, k < p 0 → s 99 k = nI (f k)) (hb : ∀ k, k < p 0 → f k < 1000) : (0 < pvF f (p 0 - 1) → ∃ s', f_X5_nextRow s = some (1, s') ∧ RW (p 0) (nxP (p 0) f) s s') ∧ (pvF f (p 0 - 1) = 0 → f_X5_nextRow s = some (0, s)) := by
  have hp0 := hp.2.2.1
  have hp00 := hp.2.1
  have e62 := hP.1
  have emin : (if (6 : Int32) < (s 6 2) then (6 : Int32) else (s 6 2)) = nI (p 0) := by
    rw [e62, if_neg (by rw [show (6 : Int32) = nI 6 from rfl, z_lt (by omega) (by omega)]; omega)]
  have g1 := X_pivot hp0 hp00 hs hb (nI (p 0))
  have hl := pvF_le f (p 0 - 1)
  refine ⟨fun h => ?_, fun h => ?_⟩
  · obtain ⟨i, hi⟩ : ∃ i, pvF f (p 0 - 1) = i + 1 := ⟨pvF f (p 0 - 1) - 1, by omega⟩
    have g2 := X_partner (i := i) hp0 hp00 (by omega) hs hb (nI (p 0))
    have hj := sjF_le f i (p 0 - 1)
    have hsw := X_swap i (sjF f i (p 0 - 1)) (by omega) (by omega) s
    have hrw : RW (p 0) f s s := ⟨hs, fun _ _ => rfl, fun _ _ => rfl⟩
    obtain ⟨s', a, b, g3, g4⟩ := X_turnTail (lo := i + 1) hp0 hp00 (by omega) (hrw.sw (i := i) (j := sjF f i (p 0 - 1)) (by omega) (by omega))
    refine ⟨s', ?_, ?_⟩
    · unfold f_X5_nextRow
      rw [emin, show (2 : Int32) = nI 2 from rfl, op_some g1]
      dsimp only
      rw [hi, z_m1s]
      unfold f_X5_nextRow_44
      rw [if_pos (by rw [show (0 : Int32) = nI 0 from rfl, z_le (by omega) (by omega)]; omega), show (1 : Int32) = nI 1 from rfl, z_sub hp00, op_some g2]
      dsimp only
      unfold f_X5_nextRow_80
      rw [bd_some hsw, show (1 : Int32) = nI 1 from rfl, z_sub hp00, z_add, op_some g3]
    · unfold nxP
      rw [hi, Nat.add_sub_cancel]
      exact g4
  · unfold f_X5_nextRow
    rw [emin, show (2 : Int32) = nI 2 from rfl, op_some g1]
    dsimp only
    rw [h]
    unfold f_X5_nextRow_44
    rw [if_neg (by decide)]
