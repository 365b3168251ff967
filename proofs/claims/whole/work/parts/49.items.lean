/-! items, and all of them -/
def moN (c : Nat) : Nat := if c = 103 then 4 else if c = 104 then 20 else if c = 108 then 99 else if c = 119 then 3 else 0
def ixN (c : Nat) : Nat := if c = 103 then 3 else if c = 104 then 2 else if c = 119 then 1 else 4
abbrev itC (t : Nat → Nat) (tn : Nat) (d : Nat → Nat) (v q : Nat) : Prop := leF t tn q = 44 ∧ nuF t tn (v + 1) ≤ 3 ∧ 0 < nfF t tn (q + 1) ∧ leF t tn (q + 1 + nfF t tn (q + 1)) = 59 ∧ 1 ≤ nuF t tn (q + 1) ∧ nuF t tn (q + 1) ≤ 12 ∧ d 0 < 6
def chD (d : Nat → Nat) (a b : Nat) : Nat → Nat := un (un (un d (5 + d 0) a) (11 + d 0) b) 0 (d 0 + 1)
/-- an item at v: where the next one begins, and what is told then -/
def itm (t : Nat → Nat) (tn : Nat) (d : Nat → Nat) (v : Nat) : Option (Nat × (Nat → Nat)) :=
  if nfF t tn (v + 1) = 0 then none
  else if leF t tn v = 99 then
    (if itC t tn d v (v + 1 + nfF t tn (v + 1)) then some (v + 1 + nfF t tn (v + 1) + 1 + nfF t tn (v + 1 + nfF t tn (v + 1) + 1) + 1, chD d (nuF t tn (v + 1)) (nuF t tn (v + 1 + nfF t tn (v + 1) + 1))) else none)
  else if leF t tn (v + 1 + nfF t tn (v + 1)) = 59 ∧ 1 ≤ nuF t tn (v + 1) ∧ nuF t tn (v + 1) ≤ moN (leF t tn v) then some (v + 1 + nfF t tn (v + 1) + 1, un d (ixN (leF t tn v)) (nuF t tn (v + 1)))
  else none
/-- what is told is as it must be -/
def DI (d : Nat → Nat) : Prop := (∀ j, j < 17 → d j < 100) ∧ d 0 ≤ 6 ∧ 1 ≤ d 1 ∧ d 1 ≤ 3 ∧ 1 ≤ d 2 ∧ d 2 ≤ 20 ∧ 1 ≤ d 3 ∧ d 3 ≤ 4 ∧ 1 ≤ d 4 ∧ d 4 ≤ 99 ∧ ∀ c, c < d 0 → d (5 + c) ≤ 3 ∧ 1 ≤ d (11 + c) ∧ d (11 + c) ≤ 12
def RD (pl : Nat) (d : Nat → Nat) (s : fm_M) : Prop := s pl 2 = nI (d 0) ∧ s pl 3 = nI (d 1) ∧ s pl 4 = nI (d 2) ∧ s pl 5 = nI (d 3) ∧ s pl 6 = nI (d 4) ∧ ∀ c, c < d 0 → s (pl + 1) c = nI (d (5 + c)) ∧ s (pl + 2) c = nI (d (11 + c))
def DF (pl : Nat) (s s' : fm_M) : Prop := ∀ c, c < pl ∨ pl + 2 < c → s' c = s c
theorem DI_ch {d : Nat → Nat} (h : DI d) {a b : Nat} (h6 : d 0 < 6) (ha : a ≤ 3) (hb : 1 ≤ b) (hb2 : b ≤ 12) : DI (chD d a b) := by
  obtain ⟨h0, h1, h2, h3, h4, h5, h6', h7, h8, h9, h10⟩ := h
  have e0 : chD d a b 0 = d 0 + 1 := by unfold chD; rw [un_eq]
  have eo : ∀ j, ¬ j = 0 → ¬ j = 5 + d 0 → ¬ j = 11 + d 0 → chD d a b j = d j := fun j a1 a2 a3 => by unfold chD; rw [un_ne a1, un_ne a3, un_ne a2]
  have e5 : chD d a b (5 + d 0) = a := by unfold chD; rw [un_ne (by omega), un_ne (by omega), un_eq]
  have e11 : chD d a b (11 + d 0) = b := by unfold chD; rw [un_ne (by omega), un_eq]
  refine ⟨fun j hj => ?_, by omega, ?_, ?_, ?_, ?_, ?_, ?_, ?_, ?_, fun c hc => ?_⟩
  · by_cases q0 : j = 0
    · rw [q0, e0]; omega
    · by_cases q5 : j = 5 + d 0
      · rw [q5, e5]; omega
      · by_cases q11 : j = 11 + d 0
        · rw [q11, e11]; omega
        · rw [eo j q0 q5 q11]; exact h0 j hj
  · rw [eo 1 (by omega) (by omega) (by omega)]; exact h2
  · rw [eo 1 (by omega) (by omega) (by omega)]; exact h3
  · rw [eo 2 (by omega) (by omega) (by omega)]; exact h4
  · rw [eo 2 (by omega) (by omega) (by omega)]; exact h5
  · rw [eo 3 (by omega) (by omega) (by omega)]; exact h6'
  · rw [eo 3 (by omega) (by omega) (by omega)]; exact h7
  · rw [eo 4 (by omega) (by omega) (by omega)]; exact h8
  · rw [eo 4 (by omega) (by omega) (by omega)]; exact h9
  · rw [e0] at hc
    by_cases q : c = d 0
    · rw [q, e5, e11]; omega
    · rw [eo (5 + c) (by omega) (by omega) (by omega), eo (11 + c) (by omega) (by omega) (by omega)]; exact h10 c (by omega)
theorem DI_un {d : Nat → Nat} (h : DI d) {c a : Nat} (h1 : 1 ≤ a) (h2 : a ≤ moN c) : DI (un d (ixN c) a) := by
  obtain ⟨h0, h1', h2', h3, h4, h5, h6', h7, h8, h9, h10⟩ := h
  have hi : 1 ≤ ixN c ∧ ixN c ≤ 4 := by unfold ixN; (repeat' split) <;> omega
  have key : (ixN c = 1 ∧ a ≤ 3) ∨ (ixN c = 2 ∧ a ≤ 20) ∨ (ixN c = 3 ∧ a ≤ 4) ∨ (ixN c = 4 ∧ a ≤ 99) := by
    unfold moN at h2
    unfold ixN
    by_cases q1 : c = 103
    · rw [if_pos q1] at h2 ⊢; omega
    · rw [if_neg q1] at h2 ⊢
      by_cases q2 : c = 104
      · rw [if_pos q2] at h2 ⊢; omega
      · rw [if_neg q2] at h2 ⊢
        by_cases q3 : c = 108
        · rw [if_pos q3] at h2; rw [if_neg (by omega)]; omega
        · rw [if_neg q3] at h2
          by_cases q4 : c = 119
          · rw [if_pos q4] at h2 ⊢; omega
          · rw [if_neg q4] at h2; omega
  have e : ∀ j, un d (ixN c) a j = if j = ixN c then a else d j := fun j => by
    by_cases q : j = ixN c
    · rw [if_pos q, q, un_eq]
    · rw [if_neg q, un_ne q]
  refine ⟨fun j hj => ?_, ?_, ?_, ?_, ?_, ?_, ?_, ?_, ?_, ?_, fun c' hc => ?_⟩
  · rw [e j]
    split
    · omega
    · exact h0 j hj
  · rw [e 0]; split <;> omega
  · rw [e 1]; split <;> omega
  · rw [e 1]; split <;> omega
  · rw [e 2]; split <;> omega
  · rw [e 2]; split <;> omega
  · rw [e 3]; split <;> omega
  · rw [e 3]; split <;> omega
  · rw [e 4]; split <;> omega
  · rw [e 4]; split <;> omega
  · rw [e 0, if_neg (by omega)] at hc
    rw [e (5 + c'), e (11 + c'), if_neg (by omega), if_neg (by omega)]; exact h10 c' hc
theorem itm_ok {t : Nat → Nat} {tn : Nat} {d d' : Nat → Nat} {v v' : Nat} (h : DI d) (e : itm t tn d v = some (v', d')) : DI d' ∧ v < v' ∧ v' ≤ v + 10 := by
  have n1 := nfF_b t tn (v + 1)
  have n2 := nfF_b t tn (v + 1 + nfF t tn (v + 1) + 1)
  unfold itm at e
  split at e
  · cases e
  · split at e
    · split at e
      · rename_i q
        simp only [Option.some.injEq, Prod.mk.injEq] at e
        obtain ⟨rfl, rfl⟩ := e
        exact ⟨DI_ch h q.2.2.2.2.2.2 q.2.1 q.2.2.2.2.1 q.2.2.2.2.2.1, by omega, by omega⟩
      · cases e
    · split at e
      · rename_i q
        simp only [Option.some.injEq, Prod.mk.injEq] at e
        obtain ⟨rfl, rfl⟩ := e
        exact ⟨DI_un h q.2.1 q.2.2, by omega, by omega⟩
      · cases e
-- the class
theorem X_mostOf (c : Nat) (hc : c < 1000) (s : fm_M) : f_X4_mostOf (nI c) s = some (nI (moN c), s) := by
  unfold f_X4_mostOf moN
  rw [show (103 : Int32) = nI 103 from rfl, show (104 : Int32) = nI 104 from rfl, show (108 : Int32) = nI 108 from rfl, show (119 : Int32) = nI 119 from rfl]
  simp (disch := omega) only [z_eq]
  repeat' split
  all_goals rfl
theorem X_tellNumber {pl : Nat} {d : Nat → Nat} {s : fm_M} (hd : RD pl d s) (c a : Nat) (hc : c < 1000) (ha : a < 1000) : (1 ≤ a ∧ a ≤ moN c → ∃ s', f_X4_tellNumber pl (nI c) (nI a) s = some (1, s') ∧ RD pl (un d (ixN c) a) s' ∧ DF pl s s') ∧ (¬ (1 ≤ a ∧ a ≤ moN c) → f_X4_tellNumber pl (nI c) (nI a) s = some (0, s)) := by
  have hm := X_mostOf c hc s
  have hmb : moN c ≤ 99 := by unfold moN; (repeat' split) <;> omega
  obtain ⟨d2, d3, d4, d5, d6, dr⟩ := hd
  have gen : ∀ k, 3 ≤ k → k ≤ 6 → (∀ j, (j = 1 ∨ j = 2 ∨ j = 3 ∨ j = 4) → (j = ixN c ↔ k = j + 2)) → RD pl (un d (ixN c) a) (fm_up s pl k (nI a)) ∧ DF pl s (fm_up s pl k (nI a)) := by
    intro k k1 k2 hj
    have hix : ixN c = 1 ∨ ixN c = 2 ∨ ixN c = 3 ∨ ixN c = 4 := by unfold ixN; (repeat' split) <;> omega
    have e : ∀ j, (j = 1 ∨ j = 2 ∨ j = 3 ∨ j = 4) → s pl (j + 2) = nI (d j) → (fm_up s pl k (nI a)) pl (j + 2) = nI (un d (ixN c) a j) := by
      intro j jj hs
      rw [m_up_eq]
      by_cases q : j = ixN c
      · rw [(hj j jj).mp q, m_upd_eq, q, un_eq]
      · rw [m_upd_ne (fun z => q ((hj j jj).mpr z.symm)), un_ne q]; exact hs
    refine ⟨⟨?_, e 1 (by omega) d3, e 2 (by omega) d4, e 3 (by omega) d5, e 4 (by omega) d6, fun c' hc' => ?_⟩, fun c' hc' => m_up_ne (by omega)⟩
    · rw [m_up_eq, m_upd_ne (by omega), un_ne (by omega)]; exact d2
    · rw [un_ne (by omega)] at hc'
      rw [m_up_ne (by omega), m_up_ne (by omega), un_ne (by omega), un_ne (by omega)]
      exact dr c' hc'
  unfold f_X4_tellNumber f_X4_tellNumber_13 f_X4_tellNumber_81
  rw [show (1 : Int32) = nI 1 from rfl, show (103 : Int32) = nI 103 from rfl, show (104 : Int32) = nI 104 from rfl, show (119 : Int32) = nI 119 from rfl]
  refine ⟨fun h => ?_, fun h => ?_⟩
  · rw [if_neg (by rw [z_lt (by omega) (by omega)]; omega), bd_some hm, if_pos (by rw [z_le (by omega) (by omega)]; exact h.2)]
    simp (disch := omega) only [z_eq]
    by_cases q1 : c = 103
    · rw [if_pos q1]
      exact ⟨_, rfl, gen 5 (by omega) (by omega) (fun j jj => by unfold ixN; rw [if_pos q1]; omega)⟩
    · rw [if_neg q1]
      by_cases q2 : c = 104
      · rw [if_pos q2]
        exact ⟨_, rfl, gen 4 (by omega) (by omega) (fun j jj => by unfold ixN; rw [if_neg q1, if_pos q2]; omega)⟩
      · rw [if_neg q2]
        by_cases q3 : c = 119
        · rw [if_pos q3]
          exact ⟨_, rfl, gen 3 (by omega) (by omega) (fun j jj => by unfold ixN; rw [if_neg q1, if_neg q2, if_pos q3]; omega)⟩
        · rw [if_neg q3]
          exact ⟨_, rfl, gen 6 (by omega) (by omega) (fun j jj => by unfold ixN; rw [if_neg q1, if_neg q2, if_neg q3]; omega)⟩
  · by_cases q : a < 1
    · rw [if_pos (by rw [z_lt (by omega) (by omega)]; exact q)]
    · rw [if_neg (by rw [z_lt (by omega) (by omega)]; exact q), bd_some hm, if_neg (by rw [z_le (by omega) (by omega)]; omega)]
theorem X_tellChild {pl : Nat} {d : Nat → Nat} {s : fm_M} (hd : RD pl d s) (h6 : d 0 ≤ 6) (a b : Nat) (ha : a < 1000) (hb : b < 1000) : (d 0 < 6 ∧ a ≤ 3 ∧ 1 ≤ b ∧ b ≤ 12 → ∃ s', f_X4_tellChild pl (nI a) (nI b) s = some (1, s') ∧ RD pl (chD d a b) s' ∧ DF pl s s') ∧ (¬ (d 0 < 6 ∧ a ≤ 3 ∧ 1 ≤ b ∧ b ≤ 12) → f_X4_tellChild pl (nI a) (nI b) s = some (0, s)) := by
  obtain ⟨d2, d3, d4, d5, d6, dr⟩ := hd
  refine ⟨fun h => ?_, fun h => ?_⟩
  · refine ⟨fm_up (fm_up (fm_up s (pl + 1) (d 0) (nI a)) (pl + 2) (d 0) (nI b)) pl 2 (nI (d 0 + 1)), ?_, ⟨?_, ?_, ?_, ?_, ?_, fun c hc => ?_⟩, fun c hc => ?_⟩
    · unfold f_X4_tellChild
      simp (disch := omega) only [zl0, zl1, zl2, zl3, zl4, zl5, zl6, zl7, zl8, zl9, zl10, zl11, zl12, zl13, zl17, zl18, zl19, zl20, zl21, zl22, zl23, zl24, zl25, zl26, zl27, zl28, zl29, zl31, zl32, zl40, zl42, zl44, zl48, zl50, zl57, zl58, zl59, zl60, zl65, zl97, zl98, zl99, zl100, zl103, zl104, zl108, zl119, zl126, zl200, zl203, zl255, zl999, zl9999, zl720, zl232, z_add, z_le, z_lt, z_eq, z_clamp, z_in, z_m4, z_m4n, z_m1n, z_b0, z_b1, m_up_eq, m_up_ne, m_upd_eq, m_upd_ne, bd_s, op_s2, Bool.false_eq_true, eq_self, if_true, if_false, if_pos, if_neg, d2]
    · rw [m_up_eq, m_upd_eq]; unfold chD; rw [un_eq]
    · rw [m_up_eq, m_upd_ne (by omega), m_up_ne (by omega), m_up_ne (by omega)]; unfold chD; rw [un_ne (by omega), un_ne (by omega), un_ne (by omega)]; exact d3
    · rw [m_up_eq, m_upd_ne (by omega), m_up_ne (by omega), m_up_ne (by omega)]; unfold chD; rw [un_ne (by omega), un_ne (by omega), un_ne (by omega)]; exact d4
    · rw [m_up_eq, m_upd_ne (by omega), m_up_ne (by omega), m_up_ne (by omega)]; unfold chD; rw [un_ne (by omega), un_ne (by omega), un_ne (by omega)]; exact d5
    · rw [m_up_eq, m_upd_ne (by omega), m_up_ne (by omega), m_up_ne (by omega)]; unfold chD; rw [un_ne (by omega), un_ne (by omega), un_ne (by omega)]; exact d6
    · have hc' : c < d 0 + 1 := by unfold chD at hc; rwa [un_eq] at hc
      rw [m_up_ne (by omega), m_up_ne (by omega), m_up_eq, m_up_ne (by omega), m_up_eq]
      unfold chD
      by_cases q : c = d 0
      · rw [q, m_upd_eq, m_upd_eq]
        refine ⟨?_, ?_⟩
        · rw [un_ne (by omega), un_ne (by omega), un_eq]
        · rw [un_ne (by omega), un_eq]
      · rw [m_upd_ne q, m_upd_ne q]
        refine ⟨?_, ?_⟩
        · rw [un_ne (by omega), un_ne (by omega), un_ne (by omega)]; exact (dr c (by omega)).1
        · rw [un_ne (by omega), un_ne (by omega), un_ne (by omega), m_up_ne (by omega)]; exact (dr c (by omega)).2
    · rw [m_up_ne (by omega), m_up_ne (by omega), m_up_ne (by omega)]
  · unfold f_X4_tellChild f_X4_tellChild_18 f_X4_tellChild_31
    by_cases q1 : 6 ≤ d 0
    · simp (disch := omega) only [zl0, zl1, zl2, zl3, zl4, zl5, zl6, zl7, zl8, zl9, zl10, zl11, zl12, zl13, zl17, zl18, zl19, zl20, zl21, zl22, zl23, zl24, zl25, zl26, zl27, zl28, zl29, zl31, zl32, zl40, zl42, zl44, zl48, zl50, zl57, zl58, zl59, zl60, zl65, zl97, zl98, zl99, zl100, zl103, zl104, zl108, zl119, zl126, zl200, zl203, zl255, zl999, zl9999, zl720, zl232, z_add, z_le, z_lt, z_eq, z_clamp, z_in, z_m4, z_m4n, z_m1n, z_b0, z_b1, m_up_eq, m_up_ne, m_upd_eq, m_upd_ne, bd_s, op_s2, Bool.false_eq_true, eq_self, if_true, if_false, if_pos, if_neg, d2]
    · by_cases q2 : a ≤ 3
      · by_cases q3 : b < 1
        · simp (disch := omega) only [zl0, zl1, zl2, zl3, zl4, zl5, zl6, zl7, zl8, zl9, zl10, zl11, zl12, zl13, zl17, zl18, zl19, zl20, zl21, zl22, zl23, zl24, zl25, zl26, zl27, zl28, zl29, zl31, zl32, zl40, zl42, zl44, zl48, zl50, zl57, zl58, zl59, zl60, zl65, zl97, zl98, zl99, zl100, zl103, zl104, zl108, zl119, zl126, zl200, zl203, zl255, zl999, zl9999, zl720, zl232, z_add, z_le, z_lt, z_eq, z_clamp, z_in, z_m4, z_m4n, z_m1n, z_b0, z_b1, m_up_eq, m_up_ne, m_upd_eq, m_upd_ne, bd_s, op_s2, Bool.false_eq_true, eq_self, if_true, if_false, if_pos, if_neg, d2]
        · simp (disch := omega) only [zl0, zl1, zl2, zl3, zl4, zl5, zl6, zl7, zl8, zl9, zl10, zl11, zl12, zl13, zl17, zl18, zl19, zl20, zl21, zl22, zl23, zl24, zl25, zl26, zl27, zl28, zl29, zl31, zl32, zl40, zl42, zl44, zl48, zl50, zl57, zl58, zl59, zl60, zl65, zl97, zl98, zl99, zl100, zl103, zl104, zl108, zl119, zl126, zl200, zl203, zl255, zl999, zl9999, zl720, zl232, z_add, z_le, z_lt, z_eq, z_clamp, z_in, z_m4, z_m4n, z_m1n, z_b0, z_b1, m_up_eq, m_up_ne, m_upd_eq, m_upd_ne, bd_s, op_s2, Bool.false_eq_true, eq_self, if_true, if_false, if_pos, if_neg, d2]
      · simp (disch := omega) only [zl0, zl1, zl2, zl3, zl4, zl5, zl6, zl7, zl8, zl9, zl10, zl11, zl12, zl13, zl17, zl18, zl19, zl20, zl21, zl22, zl23, zl24, zl25, zl26, zl27, zl28, zl29, zl31, zl32, zl40, zl42, zl44, zl48, zl50, zl57, zl58, zl59, zl60, zl65, zl97, zl98, zl99, zl100, zl103, zl104, zl108, zl119, zl126, zl200, zl203, zl255, zl999, zl9999, zl720, zl232, z_add, z_le, z_lt, z_eq, z_clamp, z_in, z_m4, z_m4n, z_m1n, z_b0, z_b1, m_up_eq, m_up_ne, m_upd_eq, m_upd_ne, bd_s, op_s2, Bool.false_eq_true, eq_self, if_true, if_false, if_pos, if_neg, d2]
