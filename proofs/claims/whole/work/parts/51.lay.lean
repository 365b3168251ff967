/-! fault, lay -/
theorem M_readsItem {t : Nat → Nat} {tn : Nat} {d : Nat → Nat} {m : fm_M} (hT : TMc t tn m) (h : TI t tn) (hd : ∀ j, j < 17 → m 3 j = nI (d j)) (hD : DI d) (v : Nat) (hv : v < 300) (h11 : m 0 11 = nI (v + 1)) : (∃ v' d' m', itm t tn d v = some (v', d') ∧ f_X9_readsItem (nI (leF t tn v)) m = some (1, m') ∧ (∀ j, j < 17 → m' 3 j = nI (d' j)) ∧ m' 0 11 = nI v' ∧ BF m m') ∨ (∃ m', itm t tn d v = none ∧ f_X9_readsItem (nI (leF t tn v)) m = some (0, m') ∧ BF m m') := by
  have b0 := leF_b h v
  have nb1 := nfF_b t tn (v + 1)
  have h6 := hD.2.1
  have h06 := hd 0 (by omega)
  have ee : ∀ n, n < 1000 → (nI (leF t tn v) = nI n) = (leF t tn v = n) := fun n hn => z_eq (by omega) (by omega)
  have e99 : (nI (leF t tn v) = (99 : Int32)) = (leF t tn v = 99) := ee 99 (by omega)
  have e103 : (nI (leF t tn v) = (103 : Int32)) = (leF t tn v = 103) := ee 103 (by omega)
  have e104 : (nI (leF t tn v) = (104 : Int32)) = (leF t tn v = 104) := ee 104 (by omega)
  have e108 : (nI (leF t tn v) = (108 : Int32)) = (leF t tn v = 108) := ee 108 (by omega)
  have e119 : (nI (leF t tn v) = (119 : Int32)) = (leF t tn v = 119) := ee 119 (by omega)
  by_cases c9 : leF t tn v = 99
  · -- a child
    obtain ⟨q, hq⟩ : ∃ q, q = v + 1 + nfF t tn (v + 1) := ⟨_, rfl⟩
    have nb2 := nfF_b t tn (q + 1)
    obtain ⟨m1, g1, g2, g3⟩ := M_number hT h (v + 1) 0 3 44 (by omega) (by omega) (by omega) (by omega) (by omega) h11
    have g1' : f_X9_number (0 : Int32) (3 : Int32) (44 : Int32) m = _ := g1
    unfold nrF at g1'
    rw [← hq] at g1' g3
    by_cases e : 0 < nfF t tn (v + 1) ∧ leF t tn q = 44 ∧ 0 ≤ nuF t tn (v + 1) ∧ nuF t tn (v + 1) ≤ 3
    · rw [if_pos e] at g1'
      dsimp only at g1'
      obtain ⟨m2, k1, k2, k3⟩ := M_number (hT.af g2) h (q + 1) 1 12 59 (by omega) (by omega) (by omega) (by omega) (by omega) (g3 e.1)
      have k1' : f_X9_number (1 : Int32) (12 : Int32) (59 : Int32) m1 = _ := k1
      unfold nrF at k1'
      have hd2 : ∀ j, j < 17 → m2 3 j = nI (d j) := fun j hj => by rw [k2.1 3 (by omega), g2.1 3 (by omega)]; exact hd j hj
      by_cases f : 0 < nfF t tn (q + 1) ∧ leF t tn (q + 1 + nfF t tn (q + 1)) = 59 ∧ 1 ≤ nuF t tn (q + 1) ∧ nuF t tn (q + 1) ≤ 12
      · rw [if_pos f] at k1'
        dsimp only at k1'
        have nb := nuF_b t tn (q + 1) f.1
        by_cases c6 : d 0 < 6
        · obtain ⟨m3, j1, j2, j3, j4⟩ := M_childOf hd2 c6 (nuF t tn (v + 1)) (nuF t tn (q + 1))
          left
          refine ⟨q + 1 + nfF t tn (q + 1) + 1, chD d (nuF t tn (v + 1)) (nuF t tn (q + 1)), m3, ?_, ?_, j2, by rw [j4]; exact k3 f.1, (g2.b.tr k2.b).tr j3⟩
          · unfold itm
            rw [if_neg (by omega), if_pos c9, ← hq, if_pos ⟨e.2.1, e.2.2.2, f.1, f.2.1, f.2.2.1, f.2.2.2, c6⟩]
          · unfold f_X9_readsItem f_X9_readsItem_78 f_X9_readsItem_94
            rw [if_pos (by rw [e99]; exact c9), bd_some g1', if_pos (by rw [show (0 : Int32) = nI 0 from rfl, z_le (by omega) (by omega)]; omega), bd_some k1', if_neg (by rw [show (0 : Int32) = nI 0 from rfl, z_lt (by omega) (by omega)]; omega), if_pos (by decide), show (0 : Int32).toNatClampNeg = 0 from rfl, hd2 0 (by omega), if_neg (by rw [show (6 : Int32) = nI 6 from rfl, z_eq (by omega) (by omega)]; omega), bd_some j1]
        · right
          refine ⟨m2, ?_, ?_, g2.b.tr k2.b⟩
          · unfold itm
            rw [if_neg (by omega), if_pos c9, ← hq, if_neg (fun z => c6 z.2.2.2.2.2.2)]
          · unfold f_X9_readsItem f_X9_readsItem_78 f_X9_readsItem_94
            rw [if_pos (by rw [e99]; exact c9), bd_some g1', if_pos (by rw [show (0 : Int32) = nI 0 from rfl, z_le (by omega) (by omega)]; omega), bd_some k1', if_neg (by rw [show (0 : Int32) = nI 0 from rfl, z_lt (by omega) (by omega)]; omega), if_pos (by decide), show (0 : Int32).toNatClampNeg = 0 from rfl, hd2 0 (by omega), if_pos (by rw [show (6 : Int32) = nI 6 from rfl, z_eq (by omega) (by omega)]; omega)]
      · rw [if_neg f] at k1'
        right
        refine ⟨m2, ?_, ?_, g2.b.tr k2.b⟩
        · unfold itm
          rw [if_neg (by omega), if_pos c9, ← hq, if_neg (fun z => f ⟨z.2.2.1, z.2.2.2.1, z.2.2.2.2.1, z.2.2.2.2.2.1⟩)]
        · unfold f_X9_readsItem f_X9_readsItem_78 f_X9_readsItem_94
          rw [if_pos (by rw [e99]; exact c9), bd_some g1', if_pos (by rw [show (0 : Int32) = nI 0 from rfl, z_le (by omega) (by omega)]; omega), bd_some k1', if_pos (by decide)]
    · rw [if_neg e] at g1'
      right
      refine ⟨m1, ?_, ?_, g2.b⟩
      · unfold itm
        by_cases z0 : nfF t tn (v + 1) = 0
        · rw [if_pos z0]
        · rw [if_neg z0, if_pos c9, ← hq, if_neg (fun z => e ⟨by omega, z.1, by omega, z.2.1⟩)]
      · unfold f_X9_readsItem f_X9_readsItem_78 f_X9_readsItem_94
        rw [if_pos (by rw [e99]; exact c9), bd_some g1', if_neg (by decide), if_pos (by decide)]
  · -- a number
    have fin : ∀ ix mo : Nat, ix < 17 → mo ≤ 100 → moN (leF t tn v) = mo → ixN (leF t tn v) = ix → (∀ r m1, f_X9_one (nI ix) (nI mo) m = some (r, m1) → fm_b r = true → f_X9_readsItem (nI (leF t tn v)) m = some (r, m1)) → (∃ v' d' m', itm t tn d v = some (v', d') ∧ f_X9_readsItem (nI (leF t tn v)) m = some (1, m') ∧ (∀ j, j < 17 → m' 3 j = nI (d' j)) ∧ m' 0 11 = nI v' ∧ BF m m') ∨ (∃ m', itm t tn d v = none ∧ f_X9_readsItem (nI (leF t tn v)) m = some (0, m') ∧ BF m m') := by
      intro ix mo h1 h2 h3 h4 h5
      rcases M_one hT h hd (v + 1) ix mo (by omega) h1 h2 h11 with ⟨m', a1, a2, a3, a4, a5⟩ | ⟨m', a1, a2, a5⟩
      · left
        refine ⟨v + 1 + nfF t tn (v + 1) + 1, _, m', ?_, h5 _ _ a2 (by decide), a3, a4, a5⟩
        unfold itm
        rw [if_neg (by omega), if_neg c9, h3, h4, if_pos a1.2]
      · right
        refine ⟨m', ?_, h5 _ _ a2 (by decide), a5⟩
        unfold itm
        by_cases z0 : nfF t tn (v + 1) = 0
        · rw [if_pos z0]
        · rw [if_neg z0, if_neg c9, h3, if_neg (fun z => a1 ⟨by omega, z⟩)]
    by_cases c1 : leF t tn v = 103
    · refine fin 3 4 (by omega) (by omega) (by rw [c1]; rfl) (by rw [c1]; rfl) (fun r m1 q1 q2 => ?_)
      unfold f_X9_readsItem
      rw [if_neg (by rw [e99]; exact c9), if_pos (by rw [e103]; exact c1), bd_some (show f_X9_one (3 : Int32) (4 : Int32) m = some (r, m1) from q1), if_pos q2]
    · by_cases c2 : leF t tn v = 104
      · refine fin 2 20 (by omega) (by omega) (by rw [c2]; rfl) (by rw [c2]; rfl) (fun r m1 q1 q2 => ?_)
        unfold f_X9_readsItem
        rw [if_neg (by rw [e99]; exact c9), if_neg (by rw [e103]; exact c1), if_pos (by rw [e104]; exact c2), bd_some (show f_X9_one (2 : Int32) (20 : Int32) m = some (r, m1) from q1), if_pos q2]
      · by_cases c3 : leF t tn v = 108
        · refine fin 4 99 (by omega) (by omega) (by rw [c3]; rfl) (by rw [c3]; rfl) (fun r m1 q1 q2 => ?_)
          unfold f_X9_readsItem
          rw [if_neg (by rw [e99]; exact c9), if_neg (by rw [e103]; exact c1), if_neg (by rw [e104]; exact c2), if_pos (by rw [e108]; exact c3), bd_some (show f_X9_one (4 : Int32) (99 : Int32) m = some (r, m1) from q1), if_pos q2]
        · by_cases c4 : leF t tn v = 119
          · refine fin 1 3 (by omega) (by omega) (by rw [c4]; rfl) (by rw [c4]; rfl) (fun r m1 q1 q2 => ?_)
            unfold f_X9_readsItem
            rw [if_neg (by rw [e99]; exact c9), if_neg (by rw [e103]; exact c1), if_neg (by rw [e104]; exact c2), if_neg (by rw [e108]; exact c3), if_pos (by rw [e119]; exact c4), bd_some (show f_X9_one (1 : Int32) (3 : Int32) m = some (r, m1) from q1), if_pos q2]
          · right
            refine ⟨m, ?_, ?_, BF.rf m⟩
            · unfold itm
              by_cases z0 : nfF t tn (v + 1) = 0
              · rw [if_pos z0]
              · rw [if_neg z0, if_neg c9, if_neg (fun z => by
                  have := z.2.2
                  unfold moN at this
                  rw [if_neg c1, if_neg c2, if_neg c3, if_neg c4] at this
                  omega)]
            · unfold f_X9_readsItem
              rw [if_neg (by rw [e99]; exact c9), if_neg (by rw [e103]; exact c1), if_neg (by rw [e104]; exact c2), if_neg (by rw [e108]; exact c3), if_neg (by rw [e119]; exact c4)]
def raF (t : Nat → Nat) (tn : Nat) : Nat → (Nat → Nat) → Nat → Option Nat × (Nat → Nat)
  | 0, d, _ => (none, d)
  | f + 1, d, v => if tn ≤ v then (none, d) else match itm t tn d v with
    | none => (some v, d)
    | some (v', d') => raF t tn f d' v'
def d0F : Nat → Nat := un (un (un (un (fun _ => 0) 1 2) 2 9) 3 3) 4 60
theorem DI_0 : DI d0F := by
  refine ⟨by decide, by decide, by decide, by decide, by decide, by decide, by decide, by decide, by decide, by decide, fun c hc => ?_⟩
  have : d0F 0 = 0 := rfl
  omega
def fI : Option Nat → Int32
  | none => -4
  | some v => nI v
theorem X_readInto {pl : Nat} (hpl : pl = 3 ∨ pl = 6) {t : Nat → Nat} {tn : Nat} {s : fm_M} (hT : TXc t tn s) (h : TI t tn) : ∃ s', f_X7_readInto pl s = some (fI (raF t tn 201 d0F 0).1, s') ∧ ((raF t tn 201 d0F 0).1 = none → RD pl (raF t tn 201 d0F 0).2 s') ∧ DF pl s s' := by
  have htn := h.1
  obtain ⟨s1, hs1⟩ : ∃ s1, s1 = fm_up (fm_up (fm_up (fm_up (fm_up s pl 2 (0 : Int32)) pl 3 (2 : Int32)) pl 4 (9 : Int32)) pl 5 (3 : Int32)) pl 6 (60 : Int32) := ⟨_, rfl⟩
  have hc : f_X4_clear pl s = some (0, s1) := by rw [hs1]; rfl
  have f1 : DF pl s s1 := fun c hc => by rw [hs1, m_up_ne (by omega), m_up_ne (by omega), m_up_ne (by omega), m_up_ne (by omega), m_up_ne (by omega)]
  have r1 : RD pl d0F s1 := by
    refine ⟨?_, ?_, ?_, ?_, ?_, fun c hc => ?_⟩
    · rw [hs1, m_up_eq, m_upd_ne (by omega), m_up_eq, m_upd_ne (by omega), m_up_eq, m_upd_ne (by omega), m_up_eq, m_upd_ne (by omega), m_up_eq, m_upd_eq]; rfl
    · rw [hs1, m_up_eq, m_upd_ne (by omega), m_up_eq, m_upd_ne (by omega), m_up_eq, m_upd_ne (by omega), m_up_eq, m_upd_eq]; rfl
    · rw [hs1, m_up_eq, m_upd_ne (by omega), m_up_eq, m_upd_ne (by omega), m_up_eq, m_upd_eq]; rfl
    · rw [hs1, m_up_eq, m_upd_ne (by omega), m_up_eq, m_upd_eq]; rfl
    · rw [hs1, m_up_eq, m_upd_eq]; rfl
    · have : d0F 0 = 0 := rfl
      omega
  obtain ⟨y, g1, g2⟩ := it_go (body := fun (yy : fm_M × Int32) => f_X7_readInto_6 pl yy.1 yy.2) (fun k u => ∃ s' d v, u = (s', nI v) ∧ k ≤ v ∧ v ≤ 250 ∧ raF t tn (201 - k) d v = raF t tn 201 d0F 0 ∧ RD pl d s' ∧ DI d ∧ DF pl s s') (fun y => ∃ s', DF pl s s' ∧ ((∃ v, (raF t tn 201 d0F 0).1 = none ∧ RD pl (raF t tn 201 d0F 0).2 s' ∧ y = .inr (s', v)) ∨ (∃ v, (raF t tn 201 d0F 0).1 = some v ∧ y = .inl (nI v, s')))) 200 (s1, 0) (by omega) ⟨s1, d0F, 0, rfl, by omega, by omega, rfl, r1, DI_0, f1⟩ (by
    rintro k u hk ⟨s2, d, v, rfl, q1, q2, q3, q4, q5, q6⟩
    have hT2 : TXc t tn s2 := hT.fr (q6 1 (by omega)) (q6 2 (by omega))
    obtain ⟨w, hw⟩ : ∃ w, 201 - k = w + 1 := ⟨201 - k - 1, by omega⟩
    rw [hw, raF] at q3
    by_cases e : tn ≤ v
    · right
      rw [if_pos e] at q3
      refine ⟨.inr (s2, nI v), ?_, s2, q6, Or.inl ⟨nI v, by rw [← q3], by rw [← q3]; exact q4, rfl⟩⟩
      dsimp only [f_X7_readInto_6]
      rw [hT2.1, if_pos (by rw [z_le (by omega) (by omega)]; exact e)]
    · rw [if_neg e] at q3
      rcases X_readItem hT2 h q4 q5 v (by omega) with ⟨v', d', s3, i1, i2, i3, i4⟩ | ⟨i1, i2⟩
      · left
        rw [i1] at q3
        obtain ⟨j1, j2, j3⟩ := itm_ok q5 i1
        refine ⟨(s3, nI v'), ?_, s3, d', v', rfl, by omega, by omega, by rw [show 201 - (k + 1) = w by omega]; exact q3, i3, j1, fun c hc => by rw [i4 c hc, q6 c hc]⟩
        dsimp only [f_X7_readInto_6]
        rw [hT2.1, if_neg (by rw [z_le (by omega) (by omega)]; exact e), bd_some i2, if_pos (by rw [z_lt (by omega) (by omega)]; exact j2)]
      · right
        rw [i1] at q3
        refine ⟨.inl (nI v, s2), ?_, s2, q6, Or.inr ⟨v, by rw [← q3], rfl⟩⟩
        dsimp only [f_X7_readInto_6]
        rw [hT2.1, if_neg (by rw [z_le (by omega) (by omega)]; exact e), bd_some i2, if_neg (by rw [z_lt (by omega) (by omega)]; omega)]) (by
    rintro u ⟨s2, d, v, rfl, q1, q2, q3, q4, q5, q6⟩
    have hT2 : TXc t tn s2 := hT.fr (q6 1 (by omega)) (q6 2 (by omega))
    rw [show 201 - 200 = 0 + 1 from rfl, raF, if_pos (by omega)] at q3
    refine ⟨.inr (s2, nI v), ?_, s2, q6, Or.inl ⟨nI v, by rw [← q3], by rw [← q3]; exact q4, rfl⟩⟩
    dsimp only [f_X7_readInto_6]
    rw [hT2.1, if_pos (by rw [z_le (by omega) (by omega)]; omega)])
  obtain ⟨s', k1, ⟨v, k2, k3, rfl⟩ | ⟨v, k2, rfl⟩⟩ := g2
  · refine ⟨s', ?_, fun _ => k3, k1⟩
    unfold f_X7_readInto
    rw [bd_some hc, op_some g1, k2]
    rfl
  · refine ⟨s', ?_, fun z => ?_, k1⟩
    · unfold f_X7_readInto
      rw [bd_some hc, op_some g1, k2]
      rfl
    · rw [k2] at z; cases z
theorem M_begins (m : fm_M) : ∃ m', f_X9_begins m = some (0, m') ∧ (∀ c, ¬ c = 3 → m' c = m c) ∧ ∀ j, j < 17 → m' 3 j = nI (d0F j) := by
  obtain ⟨m1, h1, h2, -, h4⟩ := it_fill (body := fun (yy : fm_M × Int32) => f_X9_begins_2 yy.1 yy.2) 17 3 0 (fun _ => nI 0) m (by omega) (fun k m' hk q1 q2 => by
    dsimp only [f_X9_begins_2]
    simp (disch := omega) only [zl0, zl1, zl2, zl3, zl4, zl5, zl6, zl7, zl8, zl9, zl10, zl11, zl12, zl13, zl17, zl18, zl19, zl20, zl21, zl22, zl23, zl24, zl25, zl26, zl27, zl28, zl29, zl31, zl32, zl40, zl42, zl44, zl48, zl50, zl57, zl58, zl59, zl60, zl65, zl97, zl98, zl99, zl100, zl103, zl104, zl108, zl119, zl126, zl200, zl203, zl255, zl999, zl9999, zl720, zl232, z_add, z_le, z_lt, z_eq, z_clamp, z_in, z_m4, z_m4n, z_m1n, z_b0, z_b1, m_up_eq, m_up_ne, m_upd_eq, m_upd_ne, bd_s, op_s2, Bool.false_eq_true, eq_self, if_true, if_false, if_pos, if_neg, Nat.zero_add]) (fun m' q1 => by
    dsimp only [f_X9_begins_2]
    simp (disch := omega) only [zl0, zl1, zl2, zl3, zl4, zl5, zl6, zl7, zl8, zl9, zl10, zl11, zl12, zl13, zl17, zl18, zl19, zl20, zl21, zl22, zl23, zl24, zl25, zl26, zl27, zl28, zl29, zl31, zl32, zl40, zl42, zl44, zl48, zl50, zl57, zl58, zl59, zl60, zl65, zl97, zl98, zl99, zl100, zl103, zl104, zl108, zl119, zl126, zl200, zl203, zl255, zl999, zl9999, zl720, zl232, z_add, z_le, z_lt, z_eq, z_clamp, z_in, z_m4, z_m4n, z_m1n, z_b0, z_b1, m_up_eq, m_up_ne, m_upd_eq, m_upd_ne, bd_s, op_s2, Bool.false_eq_true, eq_self, if_true, if_false, if_pos, if_neg])
  refine ⟨fm_up (fm_up (fm_up (fm_up m1 3 1 2) 3 2 9) 3 3 3) 3 4 60, ?_, fun c hc => by rw [m_up_ne hc, m_up_ne hc, m_up_ne hc, m_up_ne hc]; exact h2 c hc, fun j hj => ?_⟩
  · unfold f_X9_begins
    rw [op_some h1]
    dsimp only
    rw [if_pos (by decide), if_pos (by decide), if_pos (by decide), if_pos (by decide)]
    rfl
  · have hz := h4 j hj
    rw [Nat.zero_add] at hz
    unfold d0F
    rw [m_up_eq]
    by_cases q4 : j = 4
    · rw [q4, m_upd_eq, un_eq]; rfl
    · rw [m_upd_ne q4, un_ne q4, m_up_eq]
      by_cases q3 : j = 3
      · rw [q3, m_upd_eq, un_eq]; rfl
      · rw [m_upd_ne q3, un_ne q3, m_up_eq]
        by_cases q2 : j = 2
        · rw [q2, m_upd_eq, un_eq]; rfl
        · rw [m_upd_ne q2, un_ne q2, m_up_eq]
          by_cases q1 : j = 1
          · rw [q1, m_upd_eq, un_eq]; rfl
          · rw [m_upd_ne q1, un_ne q1]; exact hz
theorem M_readsAll {t : Nat → Nat} {tn : Nat} {m : fm_M} (hT : TMc t tn m) (h : TI t tn) : ∃ m', f_X9_readsAll m = some (fI (raF t tn 201 d0F 0).1, m') ∧ ((raF t tn 201 d0F 0).1 = none → ∀ j, j < 17 → m' 3 j = nI ((raF t tn 201 d0F 0).2 j)) ∧ BF m m' := by
  have htn := h.1
  obtain ⟨m1, b1, b2, b3⟩ := M_begins m
  have f1 : BF m (fm_up m1 0 11 0) := ⟨fun c h0 h3 => by rw [m_up_ne h0]; exact b2 c h3, fun k hk => by rw [m_up_eq, m_upd_ne hk, b2 0 (by omega)]⟩
  have hTb : ∀ m', BF m m' → TMc t tn m' := fun m' hb => by unfold TMc; rw [hb.2 1 (by omega), hb.1 1 (by omega) (by omega)]; exact hT
  obtain ⟨y, g1, g2⟩ := it_go (body := fun (yy : fm_M) => f_X9_readsAll_9 yy) (fun k u => ∃ d v, u 0 11 = nI v ∧ k ≤ v ∧ v ≤ 250 ∧ raF t tn (201 - k) d v = raF t tn 201 d0F 0 ∧ (∀ j, j < 17 → u 3 j = nI (d j)) ∧ DI d ∧ BF m u) (fun y => ∃ m', BF m m' ∧ (((raF t tn 201 d0F 0).1 = none ∧ (∀ j, j < 17 → m' 3 j = nI ((raF t tn 201 d0F 0).2 j)) ∧ y = .inr m') ∨ (∃ v, (raF t tn 201 d0F 0).1 = some v ∧ y = .inl (nI v, m')))) 200 (fm_up m1 0 11 0) (by omega) ⟨d0F, 0, by rw [m_up_eq, m_upd_eq]; rfl, by omega, by omega, rfl, fun j hj => by rw [m_up_ne (by omega)]; exact b3 j hj, DI_0, f1⟩ (by
    rintro k u hk ⟨d, v, q0, q1, q2, q3, q4, q5, q6⟩
    have hT2 := hTb u q6
    obtain ⟨w, hw⟩ : ∃ w, 201 - k = w + 1 := ⟨201 - k - 1, by omega⟩
    rw [hw, raF] at q3
    by_cases e : tn ≤ v
    · right
      rw [if_pos e] at q3
      refine ⟨.inr u, ?_, u, q6, Or.inl ⟨by rw [← q3], by rw [← q3]; exact q4, rfl⟩⟩
      dsimp only [f_X9_readsAll_9]
      rw [hT2.1, q0, if_pos (by rw [z_le (by omega) (by omega)]; exact e)]
    · rw [if_neg e] at q3
      obtain ⟨u2, hu2⟩ : ∃ u2, u2 = fm_up u 0 11 (nI (v + 1)) := ⟨_, rfl⟩
      have fu : BF u u2 := by rw [hu2]; exact (AF.up u _).b
      have hle : u2 1 v = nI (leF t tn v) := by
        unfold leF
        rw [if_pos (by omega), fu.1 1 (by omega) (by omega)]
        exact hT2.2 v (by omega)
      have hz : u 0 11 + 1 = nI (v + 1) := by rw [q0]; exact z_add v 1
      have body : f_X9_readsAll_9 u = fm_bd (f_X9_readsItem (nI (leF t tn v)) u2) (fun r2 s2 => if r2 = 0 then some (.inr (.inl (nI v, s2))) else some (.inl s2)) := by
        unfold f_X9_readsAll_9
        rw [hT2.1, hz, ← hu2, q0, if_neg (by rw [z_le (by omega) (by omega)]; exact e), if_pos (by rw [z_in (by omega)]; omega), z_clamp (by omega), hle]
      rcases M_readsItem (d := d) (hTb u2 (q6.tr fu)) h (fun j hj => by rw [hu2, m_up_ne (by omega)]; exact q4 j hj) q5 v (by omega) (by rw [hu2, m_up_eq, m_upd_eq]) with ⟨v', d', m3, i1, i2, i3, i4, i5⟩ | ⟨m3, i1, i2, i5⟩
      · left
        rw [i1] at q3
        obtain ⟨j1, j2, j3⟩ := itm_ok q5 i1
        refine ⟨m3, ?_, d', v', i4, by omega, by omega, by rw [show 201 - (k + 1) = w by omega]; exact q3, i3, j1, (q6.tr fu).tr i5⟩
        rw [body, bd_some i2, if_neg (by decide)]
      · right
        rw [i1] at q3
        refine ⟨.inl (nI v, m3), ?_, m3, (q6.tr fu).tr i5, Or.inr ⟨v, by rw [← q3], rfl⟩⟩
        rw [body, bd_some i2, if_pos rfl]) (by
    rintro u ⟨d, v, q0, q1, q2, q3, q4, q5, q6⟩
    have hT2 := hTb u q6
    rw [show 201 - 200 = 0 + 1 from rfl, raF, if_pos (by omega)] at q3
    refine ⟨.inr u, ?_, u, q6, Or.inl ⟨by rw [← q3], by rw [← q3]; exact q4, rfl⟩⟩
    dsimp only [f_X9_readsAll_9]
    rw [hT2.1, q0, if_pos (by rw [z_le (by omega) (by omega)]; omega)])
  obtain ⟨m', k1, ⟨k2, k3, rfl⟩ | ⟨v, k2, rfl⟩⟩ := g2
  · refine ⟨m', ?_, fun _ => k3, k1⟩
    unfold f_X9_readsAll
    rw [bd_some b1, op_some g1, k2]
    rfl
  · refine ⟨m', ?_, fun z => ?_, k1⟩
    · unfold f_X9_readsAll
      rw [bd_some b1, op_some g1, k2]
      rfl
    · rw [k2] at z; cases z
theorem raF_ok {t : Nat → Nat} {tn : Nat} : ∀ (f : Nat) (d : Nat → Nat) (v : Nat), DI d → v ≤ tn + 20 → tn ≤ 200 → DI (raF t tn f d v).2 ∧ ∀ w, (raF t tn f d v).1 = some w → w ≤ 1000
  | 0, d, v, h, _, _ => ⟨h, fun w e => by cases e⟩
  | f + 1, d, v, h, hv, ht => by
    rw [raF]
    by_cases e : tn ≤ v
    · rw [if_pos e]; exact ⟨h, fun w e => by cases e⟩
    · rw [if_neg e]
      rcases hi : itm t tn d v with _ | ⟨v', d'⟩
      · exact ⟨h, fun w q => by cases q; omega⟩
      · obtain ⟨j1, j2, j3⟩ := itm_ok h hi
        exact raF_ok f d' v' j1 (by omega) ht
theorem MS.bf {p σ t : Nat → Nat} {tn : Nat} {H : Nat → Nat → Nat} {hn : Nat} {K : Nat → Nat → Nat} {kn : Nat} {sc sn sl : Nat → Nat} {sq : Nat} {m m' : fm_M} (h : MS p σ t tn H hn K kn sc sn sl sq m) (e : BF m m') : MS p σ t tn H hn K kn sc sn sl sq m' :=
  h.fr (fun c hc => e.1 c (by omega) (by omega)) (fun j hj => by rw [e.1 4 (by omega) (by omega)]) ⟨e.2 1 (by omega), e.2 6 (by omega), e.2 8 (by omega), e.2 10 (by omega)⟩
theorem R_fault {k : Nat} {x m : fm_M} (h : Rel k x m) (hk : k < 1000) : Good k (f_X8_fault x) (f_X9_fault m) := by
  obtain ⟨p, σ, t, tn, H, hn, K, kn, sc, sn, sl, sq, ch, hI, hX, hM⟩ := h
  obtain ⟨x1, a1, -, a3⟩ := X_readInto (pl := 3) (Or.inl rfl) hX.2.2.1 hI.2.2.2.1
  obtain ⟨m1, b1, -, b3⟩ := M_readsAll hM.2.1 hI.2.2.2.1
  refine ⟨fI (raF t tn 201 d0F 0).1, x1, m1, ?_, ?_, p, σ, t, tn, H, hn, K, kn, sc, sn, sl, sq, ch, hI.up hk, hX.fr (fun c c1 c2 c3 => a3 c (by omega)), hM.bf b3⟩
  · unfold f_X8_fault
    rw [bd_some a1]
  · unfold f_X9_fault
    rw [bd_some b1]
