/-! asked: kinds, takes -/
def soB (sc sn sl : Nat → Nat) (c k t : Nat) : Nat → Bool
  | 0 => true
  | j + 1 => soB sc sn sl c k t j && (decide (¬ sc j = c) || decide (mins k t (sl j) = sn j))
theorem soB_mono {sc sn sl : Nat → Nat} {c k t : Nat} : ∀ {n j : Nat}, j ≤ n → soB sc sn sl c k t j = false → soB sc sn sl c k t n = false
  | 0, j, h, e => by
    have : j = 0 := by omega
    subst this; exact e
  | n + 1, j, h, e => by
    rcases (show j = n + 1 ∨ j ≤ n by omega) with q | q
    · subst q; exact e
    · unfold soB; rw [soB_mono q e, Bool.false_and]
theorem X_wouldBe {sc sn sl : Nat → Nat} {sq : Nat} {x : fm_M} (hS : SX sc sn sl sq x) (hs : SI sc sn sl sq) (c k t : Nat) (hc : c < 6) (hk : k < 100) (ht : t < 100) : f_X6_wouldBe (nI c) (nI k) (nI t) x = some (bI (soB sc sn sl c k t sq), x) := by
  obtain ⟨e3, es⟩ := hS
  obtain ⟨hq, hb⟩ := hs
  obtain ⟨y, h1, h2⟩ := it_go (body := fun (yy : fm_M × Int32) => f_X6_wouldBe_3 (nI c) (nI k) (nI t) yy.1 yy.2) (fun j s => s = (x, nI j) ∧ soB sc sn sl c k t j = true) (fun y => y = if soB sc sn sl c k t sq = true then .inr (x, nI sq) else .inl (0, x)) sq (x, 0) (by omega) ⟨rfl, rfl⟩ (by
    rintro j s hj ⟨rfl, hso⟩
    obtain ⟨s1, s2, s3⟩ := es j hj
    obtain ⟨b1, b2, b3, b4⟩ := hb j hj
    have mm := X_minutesFor k t (sl j) hk ht b4 x
    have mb : mins k t (sl j) < 200 := by
      unfold mins mi0
      repeat' split
      all_goals omega
    by_cases f1 : sc j = c
    · by_cases f2 : mins k t (sl j) = sn j
      · left
        refine ⟨(x, nI (j + 1)), ?_, rfl, ?_⟩
        · dsimp only [f_X6_wouldBe_3, f_X6_wouldBe_54]
          simp (disch := omega) only [zl0, zl1, zl2, zl3, zl4, zl5, zl6, zl7, zl8, zl9, zl10, zl11, zl12, zl13, zl17, zl18, zl19, zl20, zl21, zl22, zl23, zl24, zl25, zl26, zl27, zl28, zl29, zl31, zl32, zl40, zl42, zl44, zl48, zl50, zl57, zl58, zl59, zl60, zl65, zl97, zl98, zl99, zl100, zl103, zl104, zl108, zl119, zl126, zl200, zl203, zl255, zl999, zl9999, zl720, zl232, z_add, z_le, z_lt, z_eq, z_clamp, z_in, z_m4, z_m4n, z_m1n, z_b0, z_b1, m_up_eq, m_up_ne, m_upd_eq, m_upd_ne, bd_s, op_s2, Bool.false_eq_true, eq_self, if_true, if_false, if_pos, if_neg, e3, s1, s2, s3, mm]
        · unfold soB; rw [hso, decide_eq_true f2]; simp
      · right
        have hf : soB sc sn sl c k t (j + 1) = false := by
          unfold soB; rw [decide_eq_false f2, f1]; simp
        refine ⟨.inl (0, x), ?_, ?_⟩
        · dsimp only [f_X6_wouldBe_3, f_X6_wouldBe_54]
          simp (disch := omega) only [zl0, zl1, zl2, zl3, zl4, zl5, zl6, zl7, zl8, zl9, zl10, zl11, zl12, zl13, zl17, zl18, zl19, zl20, zl21, zl22, zl23, zl24, zl25, zl26, zl27, zl28, zl29, zl31, zl32, zl40, zl42, zl44, zl48, zl50, zl57, zl58, zl59, zl60, zl65, zl97, zl98, zl99, zl100, zl103, zl104, zl108, zl119, zl126, zl200, zl203, zl255, zl999, zl9999, zl720, zl232, z_add, z_le, z_lt, z_eq, z_clamp, z_in, z_m4, z_m4n, z_m1n, z_b0, z_b1, m_up_eq, m_up_ne, m_upd_eq, m_upd_ne, bd_s, op_s2, Bool.false_eq_true, eq_self, if_true, if_false, if_pos, if_neg, e3, s1, s2, s3, mm]
        · rw [soB_mono (show j + 1 ≤ sq by omega) hf]; rfl
    · left
      refine ⟨(x, nI (j + 1)), ?_, rfl, ?_⟩
      · dsimp only [f_X6_wouldBe_3, f_X6_wouldBe_54]
        simp (disch := omega) only [zl0, zl1, zl2, zl3, zl4, zl5, zl6, zl7, zl8, zl9, zl10, zl11, zl12, zl13, zl17, zl18, zl19, zl20, zl21, zl22, zl23, zl24, zl25, zl26, zl27, zl28, zl29, zl31, zl32, zl40, zl42, zl44, zl48, zl50, zl57, zl58, zl59, zl60, zl65, zl97, zl98, zl99, zl100, zl103, zl104, zl108, zl119, zl126, zl200, zl203, zl255, zl999, zl9999, zl720, zl232, z_add, z_le, z_lt, z_eq, z_clamp, z_in, z_m4, z_m4n, z_m1n, z_b0, z_b1, m_up_eq, m_up_ne, m_upd_eq, m_upd_ne, bd_s, op_s2, Bool.false_eq_true, eq_self, if_true, if_false, if_pos, if_neg, e3, s1]
      · unfold soB; rw [hso, decide_eq_true f1]; simp) (by
    rintro s ⟨rfl, hso⟩
    refine ⟨.inr (x, nI sq), ?_, by rw [if_pos hso]⟩
    dsimp only [f_X6_wouldBe_3]
    simp (disch := omega) only [zl0, zl1, zl2, zl3, zl4, zl5, zl6, zl7, zl8, zl9, zl10, zl11, zl12, zl13, zl17, zl18, zl19, zl20, zl21, zl22, zl23, zl24, zl25, zl26, zl27, zl28, zl29, zl31, zl32, zl40, zl42, zl44, zl48, zl50, zl57, zl58, zl59, zl60, zl65, zl97, zl98, zl99, zl100, zl103, zl104, zl108, zl119, zl126, zl200, zl203, zl255, zl999, zl9999, zl720, zl232, z_add, z_le, z_lt, z_eq, z_clamp, z_in, z_m4, z_m4n, z_m1n, z_b0, z_b1, m_up_eq, m_up_ne, m_upd_eq, m_upd_ne, bd_s, op_s2, Bool.false_eq_true, eq_self, if_true, if_false, if_pos, if_neg, e3])
  unfold f_X6_wouldBe
  rw [op_some h1, h2]
  cases e : soB sc sn sl c k t sq
  · rfl
  · rfl
theorem M_isSo {sc sn sl : Nat → Nat} {sq : Nat} {m : fm_M} (hS : SM sc sn sl sq m) (hs : SI sc sn sl sq) (c k t : Nat) (hc : c < 6) (hk : k < 100) (ht : t < 100) (h1t : 1 ≤ t) : f_X9_isSo (nI c) (nI k) (nI t) m = some (bI (soB sc sn sl c k t sq), m) := by
  obtain ⟨e3, es⟩ := hS
  obtain ⟨hq, hb⟩ := hs
  obtain ⟨y, h1, h2⟩ := it_go (body := fun (yy : fm_M × Int32 × Int32) => f_X9_isSo_6 (nI c) (nI k) (nI t) yy.1 yy.2.1 yy.2.2) (fun j s => s = (m, bI (soB sc sn sl c k t j), nI j)) (fun y => y = (m, bI (soB sc sn sl c k t sq), nI sq)) sq (m, 1, 0) (by omega) rfl (by
    rintro j s hj rfl
    left
    have s1 := es j hj
    obtain ⟨b1, b2, b3, b4⟩ := hb j hj
    have q1 : (nI (100 * sc j + 2 * sn j + sl j)) / nI 100 = nI (sc j) := by
      rw [z_div (by omega) (by omega) (by omega)]; congr 1; omega
    have q2 : (nI (100 * sc j + 2 * sn j + sl j)) - (nI (100 * sc j + 2 * sn j + sl j)) / nI 2 * nI 2 = nI (sl j) := by
      rw [z_rem (by omega) (by omega) (by omega)]; congr 1; omega
    have q3 : ((nI (100 * sc j + 2 * sn j + sl j)) - nI (sc j) * nI 100) / nI 2 = nI (sn j) := by
      rw [z_mul, z_sub (by omega), z_div (by omega) (by omega) (by omega)]; congr 1; omega
    have mm := M_minutes k t (sl j) hk ht (by omega) h1t m
    have mb : mins k t (sl j) < 200 := by
      unfold mins mi0
      repeat' split
      all_goals omega
    refine ⟨(m, bI (soB sc sn sl c k t (j + 1)), nI (j + 1)), ?_, rfl⟩
    dsimp only [f_X9_isSo_6, f_X9_isSo_71, f_X9_isSo_67, f_X9_isSo_72]
    cases hso : soB sc sn sl c k t j
    · rw [soB_mono (show j ≤ j + 1 by omega) hso]
      simp (disch := omega) only [zl0, zl1, zl2, zl3, zl4, zl5, zl6, zl7, zl8, zl9, zl10, zl11, zl12, zl13, zl17, zl18, zl19, zl20, zl21, zl22, zl23, zl24, zl25, zl26, zl27, zl28, zl29, zl31, zl32, zl40, zl42, zl44, zl48, zl50, zl57, zl58, zl59, zl60, zl65, zl97, zl98, zl99, zl100, zl103, zl104, zl108, zl119, zl126, zl200, zl203, zl255, zl999, zl9999, zl720, zl232, z_add, z_le, z_lt, z_eq, z_clamp, z_in, z_m4, z_m4n, z_m1n, z_b0, z_b1, m_up_eq, m_up_ne, m_upd_eq, m_upd_ne, bd_s, op_s2, Bool.false_eq_true, eq_self, if_true, if_false, if_pos, if_neg, e3, bI]
    · by_cases f1 : sc j = c
      · by_cases f2 : mins k t (sl j) = sn j
        · have : soB sc sn sl c k t (j + 1) = true := by unfold soB; rw [hso, decide_eq_true f2]; simp
          rw [this]
          simp (disch := omega) only [zl0, zl1, zl2, zl3, zl4, zl5, zl6, zl7, zl8, zl9, zl10, zl11, zl12, zl13, zl17, zl18, zl19, zl20, zl21, zl22, zl23, zl24, zl25, zl26, zl27, zl28, zl29, zl31, zl32, zl40, zl42, zl44, zl48, zl50, zl57, zl58, zl59, zl60, zl65, zl97, zl98, zl99, zl100, zl103, zl104, zl108, zl119, zl126, zl200, zl203, zl255, zl999, zl9999, zl720, zl232, z_add, z_le, z_lt, z_eq, z_clamp, z_in, z_m4, z_m4n, z_m1n, z_b0, z_b1, m_up_eq, m_up_ne, m_upd_eq, m_upd_ne, bd_s, op_s2, Bool.false_eq_true, eq_self, if_true, if_false, if_pos, if_neg, e3, s1, q2, q1, q3, mm, bI]
        · have : soB sc sn sl c k t (j + 1) = false := by unfold soB; rw [decide_eq_false f2, f1]; simp
          rw [this]
          simp (disch := omega) only [zl0, zl1, zl2, zl3, zl4, zl5, zl6, zl7, zl8, zl9, zl10, zl11, zl12, zl13, zl17, zl18, zl19, zl20, zl21, zl22, zl23, zl24, zl25, zl26, zl27, zl28, zl29, zl31, zl32, zl40, zl42, zl44, zl48, zl50, zl57, zl58, zl59, zl60, zl65, zl97, zl98, zl99, zl100, zl103, zl104, zl108, zl119, zl126, zl200, zl203, zl255, zl999, zl9999, zl720, zl232, z_add, z_le, z_lt, z_eq, z_clamp, z_in, z_m4, z_m4n, z_m1n, z_b0, z_b1, m_up_eq, m_up_ne, m_upd_eq, m_upd_ne, bd_s, op_s2, Bool.false_eq_true, eq_self, if_true, if_false, if_pos, if_neg, e3, s1, q2, q1, q3, mm, bI]
      · have : soB sc sn sl c k t (j + 1) = true := by unfold soB; rw [hso, decide_eq_true f1]; simp
        rw [this]
        simp (disch := omega) only [zl0, zl1, zl2, zl3, zl4, zl5, zl6, zl7, zl8, zl9, zl10, zl11, zl12, zl13, zl17, zl18, zl19, zl20, zl21, zl22, zl23, zl24, zl25, zl26, zl27, zl28, zl29, zl31, zl32, zl40, zl42, zl44, zl48, zl50, zl57, zl58, zl59, zl60, zl65, zl97, zl98, zl99, zl100, zl103, zl104, zl108, zl119, zl126, zl200, zl203, zl255, zl999, zl9999, zl720, zl232, z_add, z_le, z_lt, z_eq, z_clamp, z_in, z_m4, z_m4n, z_m1n, z_b0, z_b1, m_up_eq, m_up_ne, m_upd_eq, m_upd_ne, bd_s, op_s2, Bool.false_eq_true, eq_self, if_true, if_false, if_pos, if_neg, e3, s1, q1, bI]) (by
    rintro s rfl
    refine ⟨_, ?_, rfl⟩
    dsimp only [f_X9_isSo_6]
    simp (disch := omega) only [zl0, zl1, zl2, zl3, zl4, zl5, zl6, zl7, zl8, zl9, zl10, zl11, zl12, zl13, zl17, zl18, zl19, zl20, zl21, zl22, zl23, zl24, zl25, zl26, zl27, zl28, zl29, zl31, zl32, zl40, zl42, zl44, zl48, zl50, zl57, zl58, zl59, zl60, zl65, zl97, zl98, zl99, zl100, zl103, zl104, zl108, zl119, zl126, zl200, zl203, zl255, zl999, zl9999, zl720, zl232, z_add, z_le, z_lt, z_eq, z_clamp, z_in, z_m4, z_m4n, z_m1n, z_b0, z_b1, m_up_eq, m_up_ne, m_upd_eq, m_upd_ne, bd_s, op_s2, Bool.false_eq_true, eq_self, if_true, if_false, if_pos, if_neg, e3])
  subst h2
  unfold f_X9_isSo
  rw [op_some h1]
  dsimp only
  rw [if_pos (by rw [bI_b]; trivial)]
def kiF (B : Nat → Bool) : Nat → Int32
  | 0 => 0
  | j + 1 => if B j then kiF B j ||| ((1 : Int32) <<< (nI j &&& 31)) else kiF B j
theorem R_kinds {k : Nat} {x m : fm_M} (h : Rel k x m) (hk : k < 1000) (v1 : Int32) : Good k (f_X8_kinds v1 x) (f_X9_kinds v1 m) := by
  have hrel := h
  obtain ⟨p, σ, t, tn, H, hn, K, kn, sc, sn, sl, sq, ch, hI, hX, hM⟩ := h
  have hp := hI.1
  have hp0 := hp.2.2.1
  have ex := hX.2.2.2.2.2.1
  have em := hM.2.2.2.2
  have si := hI.2.2.2.2.2.2.1
  have xc := X_hasChild hp hX.1.1.1 v1
  have mc := M_isChild hp hM.1 v1
  by_cases e1 : fm_in v1 (p 0) = true
  · rw [e1] at xc mc
    obtain ⟨c, hc, rfl⟩ := in_nI e1
    obtain ⟨-, w8⟩ := hX.1.1.2.2.2.2 c hc
    have p11 := hM.1.1 (11 + c) (by omega)
    obtain ⟨-, t1, t2⟩ := hp.2.2.2.2.2.2.2.2.2.2.2 c hc
    obtain ⟨y, g1, g2⟩ := it_go (body := fun (yy : fm_M × Int32 × Int32) => f_X8_kinds_17 (nI c) yy.1 yy.2.1 yy.2.2) (fun j s => s = (x, kiF (fun i => soB sc sn sl c i (p (11 + c)) sq) j, nI j)) (fun y => y = (x, kiF (fun i => soB sc sn sl c i (p (11 + c)) sq) 4, nI 4)) 4 (x, 0, 0) (by omega) rfl (by
      rintro j s hj rfl
      left
      refine ⟨_, ?_, rfl⟩
      have hw := X_wouldBe ex si c j (p (11 + c)) (by omega) (by omega) (by omega)
      dsimp only [f_X8_kinds_17, f_X8_kinds_49]
      simp (disch := omega) only [zl0, zl1, zl2, zl3, zl4, zl5, zl6, zl7, zl8, zl9, zl10, zl11, zl12, zl13, zl17, zl18, zl19, zl20, zl21, zl22, zl23, zl24, zl25, zl26, zl27, zl28, zl29, zl31, zl32, zl40, zl42, zl44, zl48, zl50, zl57, zl58, zl59, zl60, zl65, zl97, zl98, zl99, zl100, zl103, zl104, zl108, zl119, zl126, zl200, zl203, zl255, zl999, zl9999, zl720, zl232, z_add, z_le, z_lt, z_eq, z_clamp, z_in, z_m4, z_m4n, z_m1n, z_b0, z_b1, m_up_eq, m_up_ne, m_upd_eq, m_upd_ne, bd_s, op_s2, Bool.false_eq_true, eq_self, if_true, if_false, if_pos, if_neg, w8, hw, kiF, bI_0, bI_0']
      by_cases hb : soB sc sn sl c j (p (11 + c)) sq = true
      · simp only [hb]; rfl
      · simp only [hb]; rfl) (by
      rintro s rfl
      refine ⟨_, ?_, rfl⟩
      dsimp only [f_X8_kinds_17]
      simp (disch := omega) only [zl0, zl1, zl2, zl3, zl4, zl5, zl6, zl7, zl8, zl9, zl10, zl11, zl12, zl13, zl17, zl18, zl19, zl20, zl21, zl22, zl23, zl24, zl25, zl26, zl27, zl28, zl29, zl31, zl32, zl40, zl42, zl44, zl48, zl50, zl57, zl58, zl59, zl60, zl65, zl97, zl98, zl99, zl100, zl103, zl104, zl108, zl119, zl126, zl200, zl203, zl255, zl999, zl9999, zl720, zl232, z_add, z_le, z_lt, z_eq, z_clamp, z_in, z_m4, z_m4n, z_m1n, z_b0, z_b1, m_up_eq, m_up_ne, m_upd_eq, m_upd_ne, bd_s, op_s2, Bool.false_eq_true, eq_self, if_true, if_false, if_pos, if_neg])
    obtain ⟨y', g1', g2'⟩ := it_go (body := fun (yy : fm_M × Int32 × Int32) => f_X9_kinds_14 (nI c) yy.1 yy.2.1 yy.2.2) (fun j s => s = (m, kiF (fun i => soB sc sn sl c i (p (11 + c)) sq) j, nI j)) (fun y => y = (m, kiF (fun i => soB sc sn sl c i (p (11 + c)) sq) 4, nI 4)) 4 (m, 0, 0) (by omega) rfl (by
      rintro j s hj rfl
      left
      refine ⟨_, ?_, rfl⟩
      have hw := M_isSo em si c j (p (11 + c)) (by omega) (by omega) (by omega) t1
      dsimp only [f_X9_kinds_14, f_X9_kinds_45]
      simp (disch := omega) only [zl0, zl1, zl2, zl3, zl4, zl5, zl6, zl7, zl8, zl9, zl10, zl11, zl12, zl13, zl17, zl18, zl19, zl20, zl21, zl22, zl23, zl24, zl25, zl26, zl27, zl28, zl29, zl31, zl32, zl40, zl42, zl44, zl48, zl50, zl57, zl58, zl59, zl60, zl65, zl97, zl98, zl99, zl100, zl103, zl104, zl108, zl119, zl126, zl200, zl203, zl255, zl999, zl9999, zl720, zl232, z_add, z_le, z_lt, z_eq, z_clamp, z_in, z_m4, z_m4n, z_m1n, z_b0, z_b1, m_up_eq, m_up_ne, m_upd_eq, m_upd_ne, bd_s, op_s2, Bool.false_eq_true, eq_self, if_true, if_false, if_pos, if_neg, p11, hw, kiF, bI_0, bI_0']
      by_cases hb : soB sc sn sl c j (p (11 + c)) sq = true
      · simp only [hb]; rfl
      · simp only [hb]; simp [show nI 0 = (0 : Int32) from rfl]) (by
      rintro s rfl
      refine ⟨_, ?_, rfl⟩
      dsimp only [f_X9_kinds_14]
      simp (disch := omega) only [zl0, zl1, zl2, zl3, zl4, zl5, zl6, zl7, zl8, zl9, zl10, zl11, zl12, zl13, zl17, zl18, zl19, zl20, zl21, zl22, zl23, zl24, zl25, zl26, zl27, zl28, zl29, zl31, zl32, zl40, zl42, zl44, zl48, zl50, zl57, zl58, zl59, zl60, zl65, zl97, zl98, zl99, zl100, zl103, zl104, zl108, zl119, zl126, zl200, zl203, zl255, zl999, zl9999, zl720, zl232, z_add, z_le, z_lt, z_eq, z_clamp, z_in, z_m4, z_m4n, z_m1n, z_b0, z_b1, m_up_eq, m_up_ne, m_upd_eq, m_upd_ne, bd_s, op_s2, Bool.false_eq_true, eq_self, if_true, if_false, if_pos, if_neg])
    subst g2 g2'
    refine Good.same hrel hk (r := kiF (fun i => soB sc sn sl c i (p (11 + c)) sq) 4) ?_ ?_
    · unfold f_X8_kinds
      rw [bd_some xc, if_neg (by decide), op_some g1]
    · unfold f_X9_kinds
      rw [bd_some mc, if_neg (by decide), op_some g1']
  · rw [Bool.eq_false_iff.mpr e1] at xc mc
    refine Good.same hrel hk (r := -1) ?_ ?_
    · unfold f_X8_kinds
      rw [bd_some xc, if_pos (by decide)]
    · unfold f_X9_kinds
      rw [bd_some mc, if_pos (by decide)]
def taN (B : Nat → Bool) : Nat → Nat
  | 0 => 0
  | j + 1 => if B (12 - j) then taN B j + 1 else taN B j
def taL (B : Nat → Bool) : Nat → Int32
  | 0 => -4
  | j + 1 => if B (12 - j) then nI (12 - j) else taL B j
theorem R_takes {k : Nat} {x m : fm_M} (h : Rel k x m) (hk : k < 1000) (v1 v2 : Int32) : Good k (f_X8_takes v1 v2 x) (f_X9_takes v1 v2 m) := by
  have hrel := h
  obtain ⟨p, σ, t, tn, H, hn, K, kn, sc, sn, sl, sq, ch, hI, hX, hM⟩ := h
  have hp := hI.1
  have hp0 := hp.2.2.1
  have ex := hX.2.2.2.2.2.1
  have em := hM.2.2.2.2
  have si := hI.2.2.2.2.2.2.1
  have xc := X_hasChild hp hX.1.1.1 v1
  have mc := M_isChild hp hM.1 v1
  have mi2 := M_in v2 0 1 m
  by_cases e1 : fm_in v1 (p 0) = true
  · rw [e1] at xc mc
    obtain ⟨c, hc, rfl⟩ := in_nI e1
    by_cases e4 : v2 < 0
    · have e4' : ¬ (0 : Int32) ≤ v2 := by rw [Int32.not_le]; exact e4
      rw [decide_eq_false e4', Bool.false_and] at mi2
      refine Good.same hrel hk (r := -1) ?_ ?_
      · unfold f_X8_takes f_X8_takes_20
        rw [bd_some xc, if_neg (by decide), if_pos e4]
      · unfold f_X9_takes f_X9_takes_17
        rw [bd_some mc, if_neg (by decide), bd_some mi2, if_pos (by decide)]
    have e4' : (0 : Int32) ≤ v2 := Int32.not_lt.mp e4
    rw [decide_eq_true e4', Bool.true_and] at mi2
    by_cases e5 : v2 ≤ 1
    · rw [decide_eq_true e5] at mi2
      obtain ⟨w7, -⟩ := hX.1.1.2.2.2.2 c hc
      have p5 := hM.1.1 (5 + c) (by omega)
      obtain ⟨t1, -, -⟩ := hp.2.2.2.2.2.2.2.2.2.2.2 c hc
      obtain ⟨y, g1, g2⟩ := it_go (body := fun (yy : fm_M × Int32 × Int32 × Int32) => f_X8_takes_32 (nI c) v2 yy.1 yy.2.1 yy.2.2.1 yy.2.2.2) (fun j s => s = (x, nI (taN (fun i => soB sc sn sl c (p (5 + c)) i sq) j), taL (fun i => soB sc sn sl c (p (5 + c)) i sq) j, nI (12 - j))) (fun y => y = (x, nI (taN (fun i => soB sc sn sl c (p (5 + c)) i sq) 12), taL (fun i => soB sc sn sl c (p (5 + c)) i sq) 12, nI 0)) 12 (x, 0, -4, 12) (by omega) rfl (by
        rintro j s hj rfl
        left
        refine ⟨_, ?_, rfl⟩
        have hw := X_wouldBe ex si c (p (5 + c)) (12 - j) (by omega) (by omega) (by omega)
        have hd : nI (12 - j) + (-1) = nI (12 - (j + 1)) := by rw [z_addm1, z_sub (by omega)]; rfl
        have hd' : nI (12 - j) + (-nI 1) = nI (12 - (j + 1)) := hd
        dsimp only [f_X8_takes_32, f_X8_takes_67]
        simp (disch := omega) only [zl0, zl1, zl2, zl3, zl4, zl5, zl6, zl7, zl8, zl9, zl10, zl11, zl12, zl13, zl17, zl18, zl19, zl20, zl21, zl22, zl23, zl24, zl25, zl26, zl27, zl28, zl29, zl31, zl32, zl40, zl42, zl44, zl48, zl50, zl57, zl58, zl59, zl60, zl65, zl97, zl98, zl99, zl100, zl103, zl104, zl108, zl119, zl126, zl200, zl203, zl255, zl999, zl9999, zl720, zl232, z_add, z_le, z_lt, z_eq, z_clamp, z_in, z_m4, z_m4n, z_m1n, z_b0, z_b1, m_up_eq, m_up_ne, m_upd_eq, m_upd_ne, bd_s, op_s2, Bool.false_eq_true, eq_self, if_true, if_false, if_pos, if_neg, w7, hw, taN, taL, bI_0, bI_0', hd, hd']
        by_cases hb : soB sc sn sl c (p (5 + c)) (12 - j) sq = true
        · simp only [hb]; rfl
        · simp only [hb]; rfl) (by
        rintro s rfl
        refine ⟨_, ?_, rfl⟩
        dsimp only [f_X8_takes_32]
        simp (disch := omega) only [zl0, zl1, zl2, zl3, zl4, zl5, zl6, zl7, zl8, zl9, zl10, zl11, zl12, zl13, zl17, zl18, zl19, zl20, zl21, zl22, zl23, zl24, zl25, zl26, zl27, zl28, zl29, zl31, zl32, zl40, zl42, zl44, zl48, zl50, zl57, zl58, zl59, zl60, zl65, zl97, zl98, zl99, zl100, zl103, zl104, zl108, zl119, zl126, zl200, zl203, zl255, zl999, zl9999, zl720, zl232, z_add, z_le, z_lt, z_eq, z_clamp, z_in, z_m4, z_m4n, z_m1n, z_b0, z_b1, m_up_eq, m_up_ne, m_upd_eq, m_upd_ne, bd_s, op_s2, Bool.false_eq_true, eq_self, if_true, if_false, if_pos, if_neg])
      obtain ⟨y', g1', g2'⟩ := it_go (body := fun (yy : fm_M × Int32 × Int32 × Int32) => f_X9_takes_29 (nI c) v2 yy.1 yy.2.1 yy.2.2.1 yy.2.2.2) (fun j s => s = (m, nI (taN (fun i => soB sc sn sl c (p (5 + c)) i sq) j), taL (fun i => soB sc sn sl c (p (5 + c)) i sq) j, nI (12 - j))) (fun y => y = (m, nI (taN (fun i => soB sc sn sl c (p (5 + c)) i sq) 12), taL (fun i => soB sc sn sl c (p (5 + c)) i sq) 12, nI 0)) 12 (m, 0, -4, 12) (by omega) rfl (by
        rintro j s hj rfl
        left
        refine ⟨_, ?_, rfl⟩
        have hw := M_isSo em si c (p (5 + c)) (12 - j) (by omega) (by omega) (by omega) (by omega)
        have hd : nI (12 - j) + (-1) = nI (12 - (j + 1)) := by rw [z_addm1, z_sub (by omega)]; rfl
        have hd' : nI (12 - j) + (-nI 1) = nI (12 - (j + 1)) := hd
        dsimp only [f_X9_takes_29, f_X9_takes_62, f_X9_takes_76]
        simp (disch := omega) only [zl0, zl1, zl2, zl3, zl4, zl5, zl6, zl7, zl8, zl9, zl10, zl11, zl12, zl13, zl17, zl18, zl19, zl20, zl21, zl22, zl23, zl24, zl25, zl26, zl27, zl28, zl29, zl31, zl32, zl40, zl42, zl44, zl48, zl50, zl57, zl58, zl59, zl60, zl65, zl97, zl98, zl99, zl100, zl103, zl104, zl108, zl119, zl126, zl200, zl203, zl255, zl999, zl9999, zl720, zl232, z_add, z_le, z_lt, z_eq, z_clamp, z_in, z_m4, z_m4n, z_m1n, z_b0, z_b1, m_up_eq, m_up_ne, m_upd_eq, m_upd_ne, bd_s, op_s2, Bool.false_eq_true, eq_self, if_true, if_false, if_pos, if_neg, p5, hw, taN, taL, bI_0, bI_0', hd, hd']
        by_cases hb : soB sc sn sl c (p (5 + c)) (12 - j) sq = true
        · simp only [hb]; rfl
        · simp only [hb]; rfl) (by
        rintro s rfl
        refine ⟨_, ?_, rfl⟩
        dsimp only [f_X9_takes_29]
        simp (disch := omega) only [zl0, zl1, zl2, zl3, zl4, zl5, zl6, zl7, zl8, zl9, zl10, zl11, zl12, zl13, zl17, zl18, zl19, zl20, zl21, zl22, zl23, zl24, zl25, zl26, zl27, zl28, zl29, zl31, zl32, zl40, zl42, zl44, zl48, zl50, zl57, zl58, zl59, zl60, zl65, zl97, zl98, zl99, zl100, zl103, zl104, zl108, zl119, zl126, zl200, zl203, zl255, zl999, zl9999, zl720, zl232, z_add, z_le, z_lt, z_eq, z_clamp, z_in, z_m4, z_m4n, z_m1n, z_b0, z_b1, m_up_eq, m_up_ne, m_upd_eq, m_upd_ne, bd_s, op_s2, Bool.false_eq_true, eq_self, if_true, if_false, if_pos, if_neg])
      subst g2 g2'
      by_cases e0 : v2 = 0
      · refine Good.same hrel hk (r := nI (taN (fun i => soB sc sn sl c (p (5 + c)) i sq) 12)) ?_ ?_
        · unfold f_X8_takes f_X8_takes_83
          rw [bd_some xc, if_neg (by decide), if_neg e4, if_pos e5, op_some g1]
          dsimp only
          rw [if_pos e0]
        · unfold f_X9_takes f_X9_takes_94
          rw [bd_some mc, if_neg (by decide), bd_some mi2, if_neg (by decide), op_some g1']
          dsimp only
          rw [if_pos e0]
      · refine Good.same hrel hk (r := taL (fun i => soB sc sn sl c (p (5 + c)) i sq) 12) ?_ ?_
        · unfold f_X8_takes f_X8_takes_83
          rw [bd_some xc, if_neg (by decide), if_neg e4, if_pos e5, op_some g1]
          dsimp only
          rw [if_neg e0]
        · unfold f_X9_takes f_X9_takes_94
          rw [bd_some mc, if_neg (by decide), bd_some mi2, if_neg (by decide), op_some g1']
          dsimp only
          rw [if_neg e0]
    · rw [decide_eq_false e5] at mi2
      refine Good.same hrel hk (r := -1) ?_ ?_
      · unfold f_X8_takes f_X8_takes_20
        rw [bd_some xc, if_neg (by decide), if_neg e4, if_neg e5]
      · unfold f_X9_takes f_X9_takes_17
        rw [bd_some mc, if_neg (by decide), bd_some mi2, if_pos (by decide)]
  · rw [Bool.eq_false_iff.mpr e1] at xc mc
    refine Good.same hrel hk (r := -1) ?_ ?_
    · unfold f_X8_takes f_X8_takes_20
      rw [bd_some xc, if_pos (by decide)]
    · unfold f_X9_takes f_X9_takes_17
      rw [bd_some mc, if_pos (by decide)]
