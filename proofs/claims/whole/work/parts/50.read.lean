/-! one item on both sides -/
theorem nm1 {a : Nat} (h : a < 100000) : ¬ nI a = -1 := by
  intro q
  have z := congrArg Int32.toInt q
  rw [nI_toInt (by omega), show (-1 : Int32).toInt = -1 from by decide] at z
  omega
theorem X_readItem {pl : Nat} {t : Nat → Nat} {tn : Nat} {d : Nat → Nat} {s : fm_M} (hT : TXc t tn s) (h : TI t tn) (hd : RD pl d s) (hD : DI d) (v : Nat) (hv : v < 300) : (∃ v' d' s', itm t tn d v = some (v', d') ∧ f_X7_readItem pl (nI v) s = some (nI v', s') ∧ RD pl d' s' ∧ DF pl s s') ∨ (itm t tn d v = none ∧ f_X7_readItem pl (nI v) s = some (nI v, s)) := by
  have b0 := leF_b h v
  have nb1 := nfF_b t tn (v + 1)
  obtain ⟨q, hq⟩ : ∃ q, q = v + 1 + nfF t tn (v + 1) := ⟨_, rfl⟩
  have nb2 := nfF_b t tn (q + 1)
  have bq := leF_b h q
  have a1 := X_letterAt hT h v (by omega)
  have n1 := X_numberAt hT h (v + 1) (by omega)
  have g1 := X_figuresAt hT h (v + 1) (by omega)
  have l2 := X_letterAt hT h q (by omega)
  have n2 := X_numberAt hT h (q + 1) (by omega)
  have g2 := X_figuresAt hT h (q + 1) (by omega)
  have l3 := X_letterAt hT h (q + 1 + nfF t tn (q + 1)) (by omega)
  have b3 := leF_b h (q + 1 + nfF t tn (q + 1))
  have z1 : nI v + 1 = nI (v + 1) := z_add v 1
  have zq : nI (v + 1) + nI (nfF t tn (v + 1)) = nI q := by rw [z_add, hq]
  have zq1 : nI q + 1 = nI (q + 1) := z_add q 1
  have zq2 : nI q + (1 + nI (nfF t tn (q + 1))) = nI (q + 1 + nfF t tn (q + 1)) := by
    rw [show (1 : Int32) = nI 1 from rfl, z_add, z_add, Nat.add_assoc]
  have fail : ∀ v3 v4 v5 v6 : Int32, f_X7_readItem_98 pl (nI v) v3 v4 v5 v6 s = some (nI v, s) := fun _ _ _ _ => rfl
  -- the text's first half
  have go : f_X7_readItem pl (nI v) s = if nI (leF t tn q) = (44 : Int32) then fm_bd (f_X7_numberAt (nI (q + 1)) s) (fun r7 s7 => if r7 = (-1 : Int32) then some (nI v, s7) else fm_bd (f_X7_figuresAt (nI (q + 1)) s7) (fun r8 s8 => f_X7_readItem_77 pl (nI v) (nI (leF t tn v)) (nI q + ((1 : Int32) + r8)) (if nfF t tn (v + 1) = 0 then -1 else nI (nuF t tn (v + 1))) r7 s8)) else f_X7_readItem_77 pl (nI v) (nI (leF t tn v)) (nI q) (if nfF t tn (v + 1) = 0 then -1 else nI (nuF t tn (v + 1))) (-1 : Int32) s := by
    unfold f_X7_readItem
    rw [bd_some a1, z1, bd_some n1, bd_some g1, zq, bd_some l2, zq1]
  have e44 : (nI (leF t tn q) = (44 : Int32)) = (leF t tn q = 44) := z_eq (b := 44) (by omega) (by omega)
  have e59 : (nI (leF t tn q) = (59 : Int32)) = (leF t tn q = 59) := z_eq (b := 59) (by omega) (by omega)
  have e59' : (nI (leF t tn (q + 1 + nfF t tn (q + 1))) = (59 : Int32)) = (leF t tn (q + 1 + nfF t tn (q + 1)) = 59) := z_eq (b := 59) (by omega) (by omega)
  have e99 : (nI (leF t tn v) = (99 : Int32)) = (leF t tn v = 99) := z_eq (b := 99) (by omega) (by omega)
  rw [go]
  clear go
  by_cases c0 : nfF t tn (v + 1) = 0
  · right
    refine ⟨by unfold itm; rw [if_pos c0], ?_⟩
    rw [if_pos c0]
    by_cases c1 : leF t tn q = 44
    · rw [if_pos (by rw [e44]; exact c1), bd_some n2]
      by_cases c2 : nfF t tn (q + 1) = 0
      · rw [if_pos c2, if_pos rfl]
      · rw [if_neg c2, if_neg (nm1 (by have := nuF_b t tn (q + 1) (by omega); omega)), bd_some g2]
        unfold f_X7_readItem_77
        rw [if_pos rfl, fail]
    · rw [if_neg (by rw [e44]; exact c1)]
      unfold f_X7_readItem_77
      rw [if_pos rfl, fail]
  rw [if_neg c0]
  have nub := nuF_b t tn (v + 1) (by omega)
  have hn1 : ¬ nI (nuF t tn (v + 1)) = -1 := nm1 (by omega)
  have im1 : leF t tn v = 99 → itC t tn d v q → itm t tn d v = some (q + 1 + nfF t tn (q + 1) + 1, chD d (nuF t tn (v + 1)) (nuF t tn (q + 1))) := fun y1 y2 => by
    unfold itm; rw [if_neg c0, if_pos y1, ← hq, if_pos y2]
  have im2 : leF t tn v = 99 → ¬ itC t tn d v q → itm t tn d v = none := fun y1 y2 => by
    unfold itm; rw [if_neg c0, if_pos y1, ← hq, if_neg y2]
  have im3 : ¬ leF t tn v = 99 → (leF t tn q = 59 ∧ 1 ≤ nuF t tn (v + 1) ∧ nuF t tn (v + 1) ≤ moN (leF t tn v)) → itm t tn d v = some (q + 1, un d (ixN (leF t tn v)) (nuF t tn (v + 1))) := fun y1 y2 => by
    unfold itm; rw [if_neg c0, if_neg y1, ← hq, if_pos y2]
  have im4 : ¬ leF t tn v = 99 → ¬ (leF t tn q = 59 ∧ 1 ≤ nuF t tn (v + 1) ∧ nuF t tn (v + 1) ≤ moN (leF t tn v)) → itm t tn d v = none := fun y1 y2 => by
    unfold itm; rw [if_neg c0, if_neg y1, ← hq, if_neg y2]
  have im5 : ¬ itC t tn d v q → ¬ leF t tn q = 59 → itm t tn d v = none := fun y1 y2 => by
    by_cases y : leF t tn v = 99
    · exact im2 y y1
    · exact im4 y (fun z => y2 z.1)
  by_cases c1 : leF t tn q = 44
  · rw [if_pos (by rw [e44]; exact c1), bd_some n2]
    by_cases c2 : nfF t tn (q + 1) = 0
    · right
      exact ⟨im5 (fun z => by have := z.2.2.1; omega) (by omega), by rw [if_pos c2, if_pos rfl]⟩
    · have nub2 := nuF_b t tn (q + 1) (by omega)
      rw [if_neg c2, if_neg (nm1 (by omega)), bd_some g2, zq2]
      unfold f_X7_readItem_77
      rw [if_neg hn1, bd_some l3]
      by_cases c3 : leF t tn (q + 1 + nfF t tn (q + 1)) = 59
      · rw [if_pos (by rw [e59']; exact c3)]
        unfold f_X7_readItem_99 f_X7_readItem_125 f_X7_readItem_126
        rw [if_neg (by decide)]
        unfold f_X4_tell
        by_cases c4 : leF t tn v = 99
        · rw [if_pos (by rw [e99]; exact c4)]
          obtain ⟨k1, k2⟩ := X_tellChild hd hD.2.1 (nuF t tn (v + 1)) (nuF t tn (q + 1)) (by omega) (by omega)
          by_cases c5 : d 0 < 6 ∧ nuF t tn (v + 1) ≤ 3 ∧ 1 ≤ nuF t tn (q + 1) ∧ nuF t tn (q + 1) ≤ 12
          · obtain ⟨s', m1, m2, m3⟩ := k1 c5
            left
            refine ⟨_, _, s', im1 c4 ⟨c1, c5.2.1, by omega, c3, c5.2.2.1, c5.2.2.2, c5.1⟩, ?_, m2, m3⟩
            rw [bd_some m1, if_pos (by decide), bd_s, if_neg (by decide), show (1 : Int32) = nI 1 from rfl, z_add]
          · right
            refine ⟨im2 c4 (fun z => c5 ⟨z.2.2.2.2.2.2, z.2.1, z.2.2.2.2.1, z.2.2.2.2.2.1⟩), ?_⟩
            rw [bd_some (k2 c5), if_pos (by decide), bd_s, if_pos rfl]
        · right
          refine ⟨im4 c4 (fun z => by have := z.1; omega), ?_⟩
          rw [if_neg (by rw [e99]; exact c4), if_pos (by rw [show (0 : Int32) = nI 0 from rfl, z_le (by omega) (by omega)]; omega)]
          rfl
      · right
        refine ⟨im5 (fun z => c3 z.2.2.2.1) (by omega), ?_⟩
        rw [if_neg (by rw [e59']; exact c3), fail]
  · rw [if_neg (by rw [e44]; exact c1)]
    unfold f_X7_readItem_77
    rw [if_neg hn1, bd_some l2]
    by_cases c3 : leF t tn q = 59
    · rw [if_pos (by rw [e59]; exact c3)]
      unfold f_X7_readItem_99 f_X7_readItem_125 f_X7_readItem_126
      rw [if_neg (by decide)]
      unfold f_X4_tell
      by_cases c4 : leF t tn v = 99
      · have hno : f_X4_tellChild pl (nI (nuF t tn (v + 1))) (-1) s = some (0, s) := by
          unfold f_X4_tellChild f_X4_tellChild_18 f_X4_tellChild_31
          by_cases y1 : (6 : Int32) ≤ s pl 2
          · rw [if_pos y1]
          · rw [if_neg y1, if_neg (by rw [show (0 : Int32) = nI 0 from rfl, z_lt (by omega) (by omega)]; omega)]
            by_cases y2 : nI (nuF t tn (v + 1)) ≤ (3 : Int32)
            · rw [if_pos y2, if_pos (by decide)]
            · rw [if_neg y2]
        right
        refine ⟨im2 c4 (fun z => c1 z.1), ?_⟩
        rw [if_pos (by rw [e99]; exact c4), bd_some hno, if_pos (by decide), bd_s, if_pos rfl]
      · rw [if_neg (by rw [e99]; exact c4), if_neg (by decide)]
        obtain ⟨k1, k2⟩ := X_tellNumber hd (leF t tn v) (nuF t tn (v + 1)) (by omega) (by omega)
        by_cases c5 : 1 ≤ nuF t tn (v + 1) ∧ nuF t tn (v + 1) ≤ moN (leF t tn v)
        · obtain ⟨s', m1, m2, m3⟩ := k1 c5
          left
          refine ⟨_, _, s', im3 c4 ⟨c3, c5.1, c5.2⟩, ?_, m2, m3⟩
          unfold f_X4_tell_31
          rw [bd_some m1, if_neg (by decide), if_pos (by decide), bd_s, if_neg (by decide), zq1]
        · right
          refine ⟨im4 c4 (fun z => c5 ⟨z.2.1, z.2.2⟩), ?_⟩
          rw [bd_some (k2 c5), if_pos rfl]
          rfl
    · right
      refine ⟨im5 (fun z => c1 z.1) c3, ?_⟩
      rw [if_neg (by rw [e59]; exact c3), fail]
-- the reference's item
def BF (m m' : fm_M) : Prop := (∀ c, ¬ c = 0 → ¬ c = 3 → m' c = m c) ∧ ∀ k, ¬ k = 11 → m' 0 k = m 0 k
theorem AF.b {m m' : fm_M} (h : AF m m') : BF m m' := ⟨fun c h0 _ => h.1 c h0, h.2⟩
theorem BF.tr {a b c : fm_M} (h1 : BF a b) (h2 : BF b c) : BF a c := ⟨fun k h0 h3 => (h2.1 k h0 h3).trans (h1.1 k h0 h3), fun k hk => (h2.2 k hk).trans (h1.2 k hk)⟩
theorem BF.rf (m : fm_M) : BF m m := ⟨fun _ _ _ => rfl, fun _ _ => rfl⟩
theorem BF.up3 (m : fm_M) (j : Nat) (v : Int32) : BF m (fm_up m 3 j v) := ⟨fun _ _ h3 => m_up_ne h3, fun k _ => by rw [m_up_ne (by omega)]⟩
theorem M_one {t : Nat → Nat} {tn : Nat} {d : Nat → Nat} {m : fm_M} (hT : TMc t tn m) (h : TI t tn) (hd : ∀ j, j < 17 → m 3 j = nI (d j)) (i ix mo : Nat) (hi : i < 8000) (hx : ix < 17) (hm : mo ≤ 100) (h11 : m 0 11 = nI i) : (∃ m', (0 < nfF t tn i ∧ leF t tn (i + nfF t tn i) = 59 ∧ 1 ≤ nuF t tn i ∧ nuF t tn i ≤ mo) ∧ f_X9_one (nI ix) (nI mo) m = some (1, m') ∧ (∀ j, j < 17 → m' 3 j = nI (un d ix (nuF t tn i) j)) ∧ m' 0 11 = nI (i + nfF t tn i + 1) ∧ BF m m') ∨ (∃ m', ¬ (0 < nfF t tn i ∧ leF t tn (i + nfF t tn i) = 59 ∧ 1 ≤ nuF t tn i ∧ nuF t tn i ≤ mo) ∧ f_X9_one (nI ix) (nI mo) m = some (0, m') ∧ BF m m') := by
  obtain ⟨m1, g1, g2, g3⟩ := M_number hT h i 1 mo 59 hi (by omega) (by omega) (by omega) hm h11
  have g1' : f_X9_number (1 : Int32) (nI mo) (59 : Int32) m = _ := g1
  unfold nrF at g1'
  by_cases e : 0 < nfF t tn i ∧ leF t tn (i + nfF t tn i) = 59 ∧ 1 ≤ nuF t tn i ∧ nuF t tn i ≤ mo
  · left
    rw [if_pos e] at g1'
    have nb := nuF_b t tn i e.1
    refine ⟨fm_up m1 3 ix (nI (nuF t tn i)), e, ?_, fun j hj => ?_, by rw [m_up_ne (by omega)]; exact g3 e.1, g2.b.tr (BF.up3 _ _ _)⟩
    · unfold f_X9_one f_X9_one_28
      rw [bd_some g1', if_pos (by rw [z_in (by omega)]; exact hx), if_pos (by rw [z_in (by omega)]; exact hx), z_clamp (by omega), m_up_eq, m_upd_eq, if_neg (by rw [show (0 : Int32) = nI 0 from rfl, z_le (by omega) (by omega)]; omega), if_pos (by decide)]
    · rw [m_up_eq]
      by_cases q : j = ix
      · rw [q, m_upd_eq, un_eq]
      · rw [m_upd_ne q, un_ne q, g2.1 3 (by omega)]; exact hd j hj
  · right
    rw [if_neg e] at g1'
    refine ⟨fm_up m1 3 ix (-1), e, ?_, g2.b.tr (BF.up3 _ _ _)⟩
    unfold f_X9_one f_X9_one_28
    rw [bd_some g1', if_pos (by rw [z_in (by omega)]; exact hx), if_pos (by rw [z_in (by omega)]; exact hx), z_clamp (by omega), m_up_eq, m_upd_eq, if_pos (by decide), if_pos (by decide)]
theorem M_childOf {d : Nat → Nat} {m : fm_M} (hd : ∀ j, j < 17 → m 3 j = nI (d j)) (h6 : d 0 < 6) (a b : Nat) : ∃ m', f_X9_childOf (nI a) (nI b) m = some (0, m') ∧ (∀ j, j < 17 → m' 3 j = nI (chD d a b j)) ∧ BF m m' ∧ m' 0 = m 0 := by
  have e0 := hd 0 (by omega)
  refine ⟨fm_up (fm_up (fm_up m 3 (5 + d 0) (nI a)) 3 (11 + d 0) (nI b)) 3 0 (nI (d 0 + 1)), ?_, fun j hj => ?_, ((BF.up3 _ _ _).tr (BF.up3 _ _ _)).tr (BF.up3 _ _ _), by rw [m_up_ne (by omega), m_up_ne (by omega), m_up_ne (by omega)]⟩
  · unfold f_X9_childOf
    simp (disch := omega) only [zl0, zl1, zl2, zl3, zl4, zl5, zl6, zl7, zl8, zl9, zl10, zl11, zl12, zl13, zl17, zl18, zl19, zl20, zl21, zl22, zl23, zl24, zl25, zl26, zl27, zl28, zl29, zl31, zl32, zl40, zl42, zl44, zl48, zl50, zl57, zl58, zl59, zl60, zl65, zl97, zl98, zl99, zl100, zl103, zl104, zl108, zl119, zl126, zl200, zl203, zl255, zl999, zl9999, zl720, zl232, z_add, z_le, z_lt, z_eq, z_clamp, z_in, z_m4, z_m4n, z_m1n, z_b0, z_b1, m_up_eq, m_up_ne, m_upd_eq, m_upd_ne, bd_s, op_s2, Bool.false_eq_true, eq_self, if_true, if_false, if_pos, if_neg, e0]
  · unfold chD
    rw [m_up_eq]
    by_cases q0 : j = 0
    · rw [q0, m_upd_eq, un_eq]
    · rw [m_upd_ne q0, un_ne q0, m_up_eq]
      by_cases q1 : j = 11 + d 0
      · rw [q1, m_upd_eq, un_eq]
      · rw [m_upd_ne q1, un_ne q1, m_up_eq]
        by_cases q2 : j = 5 + d 0
        · rw [q2, m_upd_eq, un_eq]
        · rw [m_upd_ne q2, un_ne q2]; exact hd j hj
