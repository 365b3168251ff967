/-! best: the reference -/
theorem z_or (a b : Nat) : nI a ||| nI b = nI (a ||| b) := by
  apply Int32.toBitVec_inj.mp
  rw [Int32.toBitVec_or]
  exact (BitVec.ofNat_or).symm
theorem mkC_lt {n : Nat} (hn : 1 ≤ n) : ∀ k c, mkC n k c < 2 ^ n
  | 0, c => Nat.two_pow_pos n
  | k + 1, c => by
    unfold mkC
    refine Nat.or_lt_two_pow (mkC_lt hn k _) ?_
    exact Nat.pow_lt_pow_right (by omega) (Nat.mod_lt _ (by omega))
theorem mkC_s (n : Nat) : ∀ k c, mkC n (k + 1) c = mkC n k c ||| 2 ^ (c / n ^ k % n)
  | 0, c => by simp [mkC]
  | k + 1, c => by
    rw [mkC, mkC_s n k (c / n), Nat.div_div_eq_div_mul, ← Nat.pow_succ', mkC]
    rw [Nat.or_assoc, Nat.or_assoc, Nat.or_comm (2 ^ (c / n ^ (k + 1) % n))]
theorem M_isRow {p σ : Nat → Nat} {m : fm_M} (hp : PI p) (hR : RM p σ m) {c : Nat} (hc : c < 100000) : ∃ m', f_X9_isRow (nI c) m = some (bI (okC (p 0) c), m') ∧ RR p (rwF (p 0) c) m' ∧ ∀ d, ¬ d = 9 → m' d = m d := by
  have hp0 := hp.2.2.1
  have hp00 := hp.2.1
  have e0 := hR.1 0 (by omega)
  obtain ⟨n, hn⟩ : ∃ n, n = p 0 := ⟨_, rfl⟩
  rw [← hn] at hp0 hp00 e0 ⊢
  obtain ⟨y, h1, m', a, h2, h3, h4⟩ := it_go (body := fun (yy : fm_M × Int32 × Int32 × Int32) => f_X9_isRow_14 yy.1 yy.2.1 yy.2.2.1 yy.2.2.2) (fun i t => ∃ m', t = (m', nI (mkC n i c), nI (c / n ^ i), nI (n - i) - nI 1) ∧ (∀ j, j < i → m' 9 (n - 1 - j) = nI (c / n ^ j % n)) ∧ ∀ d, ¬ d = 9 → m' d = m d) (fun y => ∃ m' a, y = (m', nI (mkC n n c), a) ∧ (∀ j, j < n → m' 9 (n - 1 - j) = nI (c / n ^ j % n)) ∧ ∀ d, ¬ d = 9 → m' d = m d) n (m, 0, nI c, nI n - 1) (by omega) ⟨m, by rw [Nat.pow_zero, Nat.div_one]; rfl, fun j hj => by omega, fun _ _ => rfl⟩ (by
    rintro i t hi ⟨m1, rfl, q1, q2⟩
    left
    obtain ⟨k, hk⟩ : ∃ k, n - i = k + 1 := ⟨n - i - 1, by omega⟩
    have e0' : m1 2 0 = nI n := by rw [q2 2 (by omega)]; exact e0
    have hcl : c / n ^ i ≤ c := Nat.div_le_self _ _
    have hd : c / n ^ i % n < n := Nat.mod_lt _ (by omega)
    have hsh : (1 : Int32) <<< (nI (c / n ^ i % n) &&& 31) = nI (2 ^ (c / n ^ i % n)) := (show ∀ d, d < 6 → (1 : Int32) <<< (nI d &&& 31) = nI (2 ^ d) by decide) _ (by omega)
    have er : nI (c / n ^ i) - nI (c / n ^ i) / nI n * nI n = nI (c / n ^ i % n) := z_rem (by omega) (by omega) (by omega)
    have ed : nI (c / n ^ i) / nI n = nI (c / n ^ (i + 1)) := by
      rw [z_div (by omega) (by omega) (by omega), Nat.div_div_eq_div_mul, ← Nat.pow_succ]
    have en : ¬ nI n = 0 := by rw [show (0 : Int32) = nI 0 from rfl, z_eq (by omega) (by omega)]; omega
    refine ⟨(fm_up m1 9 k (nI (c / n ^ i % n)), nI (mkC n (i + 1) c), nI (c / n ^ (i + 1)), nI (n - (i + 1)) - nI 1), ?_, _, rfl, fun j hj => ?_, fun d hd => by rw [m_up_ne hd]; exact q2 d hd⟩
    · rw [hk, z_m1s]
      dsimp only [f_X9_isRow_14]
      rw [show (0 : Int32).toNatClampNeg = 0 from rfl, e0', er, z_clamp (by omega : k < 2147483648)]
      rw [if_neg (by rw [show (0 : Int32) = nI 0 from rfl, z_lt (by omega) (by omega)]; omega), if_pos (by decide), if_neg en, if_pos (by rw [z_in (by omega)]; omega), if_pos (by decide), m_up_ne (by omega), e0', if_neg en, if_pos (by rw [z_in (by omega)]; omega), m_up_eq, m_upd_eq, hsh, z_or, ed, ← mkC_s, z_addm1, show n - (i + 1) = k by omega]
    · rw [m_up_eq]
      by_cases e : j = i
      · rw [e, show n - 1 - i = k by omega, m_upd_eq]
      · rw [m_upd_ne (by omega)]; exact q1 j (by omega)) (by
    rintro t ⟨m1, rfl, q1, q2⟩
    rw [Nat.sub_self]
    refine ⟨(m1, nI (mkC n n c), nI (c / n ^ n), nI 0 - nI 1), ?_, m1, _, rfl, q1, q2⟩
    dsimp only [f_X9_isRow_14]
    rw [if_pos (by decide)])
  subst h2
  have e0' : m' 2 0 = nI n := by rw [h4 2 (by omega)]; exact e0
  have hb := mkC_lt hp00 n c
  have h64 : 2 ^ n ≤ 2 ^ 6 := Nat.pow_le_pow_right (by omega) hp0
  have hpos := Nat.two_pow_pos n
  have hall : ((1 : Int32) <<< (nI n &&& 31)) - 1 = nI (2 ^ n - 1) := (show ∀ d, d < 7 → ((1 : Int32) <<< (nI d &&& 31)) - 1 = nI (2 ^ d - 1) by decide) _ (by omega)
  refine ⟨m', ?_, fun k hk => ?_, h4⟩
  · unfold f_X9_isRow f_X9_isRow_80
    rw [if_pos (by decide), show (0 : Int32).toNatClampNeg = 0 from rfl, e0, op_some h1]
    dsimp only
    rw [e0', hall, if_pos (by decide)]
    unfold okC
    by_cases e : mkC n n c = 2 ^ n - 1
    · rw [e, if_pos rfl, if_pos (by decide), Nat.beq_refl]; rfl
    · rw [if_neg (by rw [z_eq (by omega) (by omega)]; exact e), if_pos (by decide), show Nat.beq (mkC n n c) (2 ^ n - 1) = false from Bool.eq_false_iff.mpr (fun q => e (Nat.eq_of_beq_eq_true q))]; rfl
  · rw [← hn] at hk
    have := h3 (n - 1 - k) (by omega)
    rw [show n - 1 - (n - 1 - k) = k by omega] at this
    rw [this]; rfl
def gB : Option (Nat × Nat × Nat) → Int32
  | none => -4
  | some (g, _, _) => nI g
def bB : Option (Nat × Nat × Nat) → Int32
  | none => 0
  | some (_, b, _) => nI b
def rB (n : Nat) (v : Int32) : Option (Nat × Nat × Nat) → Int32
  | none => -4
  | some (_, _, c) => if v < 0 then -4 else if nI n ≤ v then -4 else nI (rwF n c v.toNatClampNeg)
def bfM (p σ : Nat → Nat) (c : Nat) : Option (Nat × Nat × Nat) := ((List.range c).filter (okC (p 0))).foldl (bst p σ) none
theorem bfM_s (p σ : Nat → Nat) (c : Nat) : bfM p σ (c + 1) = if okC (p 0) c = true then bst p σ (bfM p σ c) c else bfM p σ c := by
  unfold bfM
  rw [List.range_succ, List.filter_append, List.foldl_append]
  by_cases e : okC (p 0) c = true
  · rw [if_pos e, List.filter_cons, if_pos e]; rfl
  · rw [if_neg e, List.filter_cons, if_neg e]; rfl
theorem bfM_k (p σ : Nat → Nat) : ∀ c, BK p σ (bfM p σ c)
  | 0 => fun g b c e => by cases e
  | c + 1 => by
    rw [bfM_s]
    split
    · exact (bfM_k p σ c).st c
    · exact bfM_k p σ c
theorem M_113 {p : Nat → Nat} {m : fm_M} {c : Nat} (hp : PI p) (e0 : m 2 0 = nI (p 0)) (hr : RR p (rwF (p 0) c) m) (v1 v2 v7 : Int32) (i g b : Nat) (h14 : m 0 14 = nI b) : f_X9_best_113 v1 v2 (nI i) v7 m = some (.inl (m, v7, nI b, rB (p 0) v1 (some (g, b, c)), nI (i + 1))) := by
  have hp0 := hp.2.2.1
  unfold f_X9_best_113 f_X9_best_145 f_X9_best_147 f_X9_best_149 rB
  rw [show (0 : Int32).toNatClampNeg = 0 from rfl, e0, h14, show (1 : Int32) = nI 1 from rfl, z_add]
  dsimp only
  by_cases q1 : v1 < 0
  · rw [if_pos q1, if_pos q1]
  · rw [if_neg q1, if_neg q1, if_pos (by decide)]
    by_cases q2 : nI (p 0) ≤ v1
    · rw [if_pos q2, if_pos q2]
    · rw [if_neg q2, if_neg q2]
      rcases z_cases v1 with ⟨h1, h2⟩ | ⟨j, hj, rfl⟩
      · exact absurd (by rw [Int32.lt_iff_toInt_lt, show (0 : Int32).toInt = 0 from by decide]; exact h1) q1
      · rw [z_le (by omega) hj] at q2
        rw [if_pos (by rw [z_in hj]; omega), z_clamp hj, hr j (by omega)]
theorem M_tryAll {p σ : Nat → Nat} {m : fm_M} (hp : PI p) (hR : RM p σ m) (hH : HI p σ) (h8 : ∀ j, j < 29 → m 8 j = nI (σ j)) (v1 : Int32) : ∃ m' a, fm_it (fun (yy : fm_M × Int32 × Int32 × Int32 × Int32) => f_X9_best_54 v1 (nI (p 0 ^ p 0)) yy.1 yy.2.1 yy.2.2.1 yy.2.2.2.1 yy.2.2.2.2) fm_fu (m, -4, 0, -4, 0) = some (m', gB (bestF p σ), bB (bestF p σ), rB (p 0) v1 (bestF p σ), a) ∧ (∀ j, j < 29 → m' 4 j = nI (σ j)) ∧ (∀ d, ¬ d = 0 → ¬ d = 4 → ¬ d = 9 → m' d = m d) ∧ ∀ k, ¬ k = 14 → m' 0 k = m 0 k := by
  have hp0 := hp.2.2.1
  have hp00 := hp.2.1
  have hN : p 0 ^ p 0 ≤ 46656 := (show ∀ n, n < 7 → n ^ n ≤ 46656 by decide) _ (by omega)
  have ro : ∀ c, RO p (rwF (p 0) c) := fun c i hi => rwF_lt hp00
  obtain ⟨y, h1, m', a, h2, h3⟩ := it_go (body := fun (yy : fm_M × Int32 × Int32 × Int32 × Int32) => f_X9_best_54 v1 (nI (p 0 ^ p 0)) yy.1 yy.2.1 yy.2.2.1 yy.2.2.2.1 yy.2.2.2.2) (fun c t => ∃ m', t = (m', gB (bfM p σ c), bB (bfM p σ c), rB (p 0) v1 (bfM p σ c), nI c) ∧ (∀ j, j < 29 → m' 4 j = nI (σ j)) ∧ (∀ d, ¬ d = 0 → ¬ d = 4 → ¬ d = 9 → m' d = m d) ∧ ∀ k, ¬ k = 14 → m' 0 k = m 0 k) (fun y => ∃ m' a, y = (m', gB (bestF p σ), bB (bestF p σ), rB (p 0) v1 (bestF p σ), a) ∧ (∀ j, j < 29 → m' 4 j = nI (σ j)) ∧ (∀ d, ¬ d = 0 → ¬ d = 4 → ¬ d = 9 → m' d = m d) ∧ ∀ k, ¬ k = 14 → m' 0 k = m 0 k) (p 0 ^ p 0) (m, -4, 0, -4, 0) (by omega) ⟨m, rfl, hR.2, fun _ _ _ _ => rfl, fun _ _ => rfl⟩ (by
    rintro c t hc ⟨m1, rfl, q1, q2, q3⟩
    left
    have hR1 : RM p σ m1 := ⟨fun j hj => by rw [q2 2 (by omega) (by omega) (by omega)]; exact hR.1 j hj, q1⟩
    obtain ⟨m2, r1, r2, r3⟩ := M_isRow hp hR1 (c := c) (by omega)
    have hR2 : RM p σ m2 := ⟨fun j hj => by rw [r3 2 (by omega)]; exact hR1.1 j hj, fun j hj => by rw [r3 4 (by omega)]; exact hR1.2 j hj⟩
    have hlt : ¬ nI (p 0 ^ p 0) ≤ nI c := by rw [z_le (by omega) (by omega)]; omega
    have hs := bfM_s p σ c
    by_cases e : okC (p 0) c = true
    · rw [if_pos e] at hs
      rw [e] at r1
      have hk := bfM_k p σ c
      -- after the trial
      have aft : ∀ m3 : fm_M, GF m2 m3 → ∃ m4, f_X9_lets m3 = some (0, m4) ∧ m4 0 14 = m3 0 14 ∧ m4 2 0 = nI (p 0) ∧ RR p (rwF (p 0) c) m4 ∧ (∀ j, j < 29 → m4 4 j = nI (σ j)) ∧ (∀ d, ¬ d = 0 → ¬ d = 4 → ¬ d = 9 → m4 d = m d) ∧ ∀ k, ¬ k = 14 → m4 0 k = m 0 k := by
        intro m3 gf
        obtain ⟨m4, b1, b2, b3⟩ := M_lets m3
        refine ⟨m4, b1, by rw [b2 0 (by omega)], ?_, fun k hk => ?_, fun j hj => ?_, fun d d0 d4 d9 => ?_, fun k hk => ?_⟩
        · rw [b2 2 (by omega), gf.1 2 (by omega) (by omega)]; exact hR2.1 0 (by omega)
        · rw [b2 9 (by omega), gf.1 9 (by omega) (by omega)]; exact r2 k hk
        · rw [b3 j hj, gf.1 8 (by omega) (by omega), r3 8 (by omega), q2 8 (by omega) (by omega) (by omega)]; exact h8 j hj
        · rw [b2 d d4, gf.1 d d4 d0, r3 d d9, q2 d d0 d4 d9]
        · rw [b2 0 (by omega), gf.2 k hk, r3 0 (by omega), q3 k hk]
      rcases M_goes hp (ro c) hR2 hH r2 with ⟨g, b, m3, a1, a2, a3, a4⟩ | ⟨m3, a1, a2, a4⟩
      · obtain ⟨m4, b1, b2, b3, b4, b5, b6, b7⟩ := aft m3 a4
        have h14 : m4 0 14 = nI b := by rw [b2]; exact a3
        obtain ⟨-, gb, bb⟩ := goR_b hp a1
        have n4 : ¬ nI g = -4 := n4_nI gb
        refine ⟨(m4, gB (bfM p σ (c + 1)), bB (bfM p σ (c + 1)), rB (p 0) v1 (bfM p σ (c + 1)), nI (c + 1)), ?_, m4, rfl, b5, b6, b7⟩
        have hb := M_113 hp b3 b4 v1 (nI (p 0 ^ p 0)) (nI g) c g b h14
        have z1 : nI c + 1 = nI (c + 1) := z_add c 1
        dsimp only [f_X9_best_54, f_X9_best_149]
        rw [if_neg hlt, bd_some r1, if_neg (by decide), bd_some a2, bd_some b1, if_neg n4, hs, z1]
        unfold bst
        rw [a1]
        rcases ha : bfM p σ c with _ | ⟨g0, b0, c0⟩
        · rw [if_pos (show gB none = -4 from rfl), hb]
          rfl
        · obtain ⟨-, gb0, bb0⟩ := goR_b hp (hk g0 b0 c0 ha)
          rw [if_neg (show ¬ gB (some (g0, b0, c0)) = -4 from n4_nI gb0)]
          have zl : (nI g < gB (some (g0, b0, c0))) = (g < g0) := z_lt (by omega) (by omega)
          have ze : (nI g = gB (some (g0, b0, c0))) = (g = g0) := z_eq (by omega) (by omega)
          have zb : (bB (some (g0, b0, c0)) ≤ nI b) = (b0 ≤ b) := z_le (by omega) (by omega)
          dsimp only
          by_cases w1 : g < g0
          · rw [if_pos (by rw [zl]; exact w1), hb, if_pos (Or.inl w1)]; rfl
          · rw [if_neg (by rw [zl]; exact w1)]
            by_cases w2 : g = g0
            · rw [if_pos (by rw [ze]; exact w2), h14]
              by_cases w3 : b < b0
              · rw [if_neg (by rw [zb]; omega), hb, if_pos (Or.inr ⟨w2, w3⟩)]; rfl
              · rw [if_pos (by rw [zb]; omega), if_neg (by omega)]
            · rw [if_neg (by rw [ze]; exact w2), if_neg (by omega)]
      · obtain ⟨m4, b1, b2, b3, b4, b5, b6, b7⟩ := aft m3 a4
        refine ⟨(m4, gB (bfM p σ (c + 1)), bB (bfM p σ (c + 1)), rB (p 0) v1 (bfM p σ (c + 1)), nI (c + 1)), ?_, m4, rfl, b5, b6, b7⟩
        have z1 : nI c + 1 = nI (c + 1) := z_add c 1
        dsimp only [f_X9_best_54, f_X9_best_149]
        rw [if_neg hlt, bd_some r1, if_neg (by decide), bd_some a2, bd_some b1, if_pos rfl, hs, z1]
        unfold bst
        rw [a1]
    · rw [if_neg e] at hs
      rw [Bool.eq_false_iff.mpr e] at r1
      refine ⟨(m2, gB (bfM p σ (c + 1)), bB (bfM p σ (c + 1)), rB (p 0) v1 (bfM p σ (c + 1)), nI (c + 1)), ?_, m2, rfl, hR2.2, fun d d0 d4 d9 => by rw [r3 d d9, q2 d d0 d4 d9], fun k hk => by rw [r3 0 (by omega), q3 k hk]⟩
      have z1 : nI c + 1 = nI (c + 1) := z_add c 1
      dsimp only [f_X9_best_54, f_X9_best_149]
      rw [if_neg hlt, bd_some r1, if_pos (by decide), hs, z1]) (by
    rintro t ⟨m1, rfl, q1, q2, q3⟩
    refine ⟨(m1, gB (bestF p σ), bB (bestF p σ), rB (p 0) v1 (bestF p σ), nI (p 0 ^ p 0)), ?_, m1, _, rfl, q1, q2, q3⟩
    dsimp only [f_X9_best_54]
    rw [if_pos (by rw [z_le (by omega) (by omega)]; omega)]
    rfl)
  exact ⟨m', a, by rw [h1, h2], h3⟩
theorem M_many {p σ : Nat → Nat} {m : fm_M} (hp : PI p) (hR : RM p σ m) (v1 : Int32) : fm_it (fun (yy : fm_M × Int32 × Int32) => f_X9_best_16 v1 yy.1 yy.2.1 yy.2.2) fm_fu (m, 1, 0) = some (m, nI (p 0 ^ p 0), nI (p 0)) := by
  have hp0 := hp.2.2.1
  have e0 := hR.1 0 (by omega)
  obtain ⟨y, h1, h2⟩ := it_go (body := fun (yy : fm_M × Int32 × Int32) => f_X9_best_16 v1 yy.1 yy.2.1 yy.2.2) (fun i t => t = (m, nI (p 0 ^ i), nI i)) (fun y => y = (m, nI (p 0 ^ p 0), nI (p 0))) (p 0) (m, 1, 0) (by omega) rfl (by
    rintro i t hi rfl
    left
    refine ⟨_, ?_, rfl⟩
    dsimp only [f_X9_best_16]
    simp (disch := omega) only [zl0, zl1, zl2, zl3, zl4, zl5, zl6, zl7, zl8, zl9, zl10, zl11, zl12, zl13, zl17, zl18, zl19, zl20, zl21, zl22, zl23, zl24, zl25, zl26, zl27, zl28, zl29, zl31, zl32, zl40, zl42, zl44, zl48, zl50, zl57, zl58, zl59, zl60, zl65, zl97, zl98, zl99, zl100, zl103, zl104, zl108, zl119, zl126, zl200, zl203, zl255, zl999, zl9999, zl720, zl232, z_add, z_le, z_lt, z_eq, z_clamp, z_in, z_m4, z_m4n, z_m1n, z_b0, z_b1, m_up_eq, m_up_ne, m_upd_eq, m_upd_ne, bd_s, op_s2, Bool.false_eq_true, eq_self, if_true, if_false, if_pos, if_neg, e0, z_mul, Nat.pow_succ]) (by
    rintro t rfl
    refine ⟨_, ?_, rfl⟩
    dsimp only [f_X9_best_16]
    simp (disch := omega) only [zl0, zl1, zl2, zl3, zl4, zl5, zl6, zl7, zl8, zl9, zl10, zl11, zl12, zl13, zl17, zl18, zl19, zl20, zl21, zl22, zl23, zl24, zl25, zl26, zl27, zl28, zl29, zl31, zl32, zl40, zl42, zl44, zl48, zl50, zl57, zl58, zl59, zl60, zl65, zl97, zl98, zl99, zl100, zl103, zl104, zl108, zl119, zl126, zl200, zl203, zl255, zl999, zl9999, zl720, zl232, z_add, z_le, z_lt, z_eq, z_clamp, z_in, z_m4, z_m4n, z_m1n, z_b0, z_b1, m_up_eq, m_up_ne, m_upd_eq, m_upd_ne, bd_s, op_s2, Bool.false_eq_true, eq_self, if_true, if_false, if_pos, if_neg, e0])
  rw [h1, h2]
theorem z_m2 {v : Int32} (h : (-2 : Int32) ≤ v) : v = -2 ∨ v = -1 ∨ ∃ j, j < 2147483648 ∧ v = nI j := by
  rcases z_cases v with ⟨h1, h2⟩ | ⟨j, hj, rfl⟩
  · rw [Int32.le_iff_toInt_le, show (-2 : Int32).toInt = -2 from by decide] at h
    rcases (show v.toInt = -2 ∨ v.toInt = -1 by omega) with q | q
    · left
      apply Int32.toInt_inj.mp
      rw [q]; decide
    · right; left
      apply Int32.toInt_inj.mp
      rw [q]; decide
  · exact Or.inr (Or.inr ⟨j, hj, rfl⟩)
theorem R_best {k : Nat} {x m : fm_M} (h : Rel k x m) (hk : k < 1000) (v1 : Int32) : Good k (f_X8_best v1 x) (f_X9_best v1 m) := by
  have hrel := h
  obtain ⟨p, σ, t, tn, H, hn, K, kn, sc, sn, sl, sq, ch, hI, hX, hM⟩ := h
  have hp := hI.1
  have hH := hI.2.1
  have hp0 := hp.2.2.1
  have hp00 := hp.2.1
  by_cases e2 : (-2 : Int32) ≤ v1
  · obtain ⟨m1, d1, d2, d3⟩ := M_holds m
    have hR1 : RM p σ m1 := ⟨fun j hj => by rw [d2 2 (by omega)]; exact hM.1.1 j hj, fun j hj => by rw [d2 4 (by omega)]; exact hM.1.2 j hj⟩
    have h81 : ∀ j, j < 29 → m1 8 j = nI (σ j) := fun j hj => by rw [d3 j hj]; exact hM.1.2 j hj
    obtain ⟨m2, a, g1, g2, g3, g4⟩ := M_tryAll hp hR1 hH h81 v1
    have gm := M_many hp hR1 v1
    have hM' : MS p σ t tn H hn K kn sc sn sl sq m2 := hM.fr (fun c hc => by rw [g3 c (by omega) (by omega) (by omega), d2 c (by omega)]) (fun j hj => by rw [g2 j hj]; exact (hM.1.2 j hj).symm) (by rw [g4 1 (by omega), g4 6 (by omega), g4 8 (by omega), g4 10 (by omega), d2 0 (by omega)]; exact ⟨rfl, rfl, rfl, rfl⟩)
    have mres : ∀ r, (if v1 = (-1 : Int32) then f_X9_best_188 (gB (bestF p σ)) m2 else if v1 = (-2 : Int32) then if gB (bestF p σ) = (-4 : Int32) then f_X9_best_188 (-4 : Int32) m2 else f_X9_best_188 (bB (bestF p σ)) m2 else f_X9_best_188 (rB (p 0) v1 (bestF p σ)) m2) = some (r, m2) → f_X9_best v1 m = some (r, m2) := by
      intro r hr
      unfold f_X9_best
      rw [if_pos e2, bd_some d1, op_some gm]
      dsimp only
      rw [op_some g1]
      exact hr
    have xall : ∃ x1, f_X5_tryAllRows 9 x = some (0, x1) ∧ BV p (bestF p σ) x1 ∧ XS p σ t tn H hn K kn sc sn sl sq ch x1 := by
      obtain ⟨⟨h1, h1'⟩, h2, h3, h4, h5, h6, h7, h8, h9, h10⟩ := hX
      by_cases ec : x 9 10 = x 98 6
      · refine ⟨x, ?_, h8 ec.symm, ⟨h1, h1'⟩, h2, h3, h4, h5, h6, h7, h8, h9, h10⟩
        unfold f_X5_tryAllRows
        rw [if_pos ec]
      · obtain ⟨x1, q1, q2, q3, q4⟩ := X_tryAll hp hH hI.2.2.1 h1 h2 h10 ec
        refine ⟨x1, q1, q2, ⟨h1.fr (q3 6 (by omega)) (q3 7 (by omega)) (q3 8 (by omega)), by rw [q3 6 (by omega)]; exact h1'⟩, h2.fr (fun c c1 c2 => q3 c (by omega)), h3.fr (q3 1 (by omega)) (q3 2 (by omega)), h4.fr (fun c c1 c2 => q3 c (by omega)), h5.fr (fun c c1 c2 => q3 c (by omega)), h6.fr (fun c c1 c2 => q3 c (by omega)), by rw [q3 9 (by omega)]; exact h7, fun _ => q2, Or.inr ⟨ch, by rw [q4]; exact h7, Nat.le_refl ch⟩, fun j hj => by rw [q3 1000 (by omega)]; exact h10 j hj⟩
    obtain ⟨x1, q1, q2, hX'⟩ := xall
    have e62 : x1 6 2 = nI (p 0) := hX'.1.1.1
    have xres : ∀ r, (if v1 = (-1 : Int32) then some ((x1 98 4), x1) else if v1 = (-2 : Int32) then some ((x1 98 5), x1) else if (x1 98 4) = (-4 : Int32) then f_X8_best_81 x1 else fm_bd (f_X4_hasChild 6 v1 x1) (fun r2 s2 => if r2 = 0 then f_X8_best_81 s2 else if fm_in v1 6 = true then f_X8_best_83 (s2 100 v1.toNatClampNeg) s2 else none)) = some (r, x1) → f_X8_best v1 x = some (r, x1) := by
      intro r hr
      unfold f_X8_best
      rw [if_pos e2, bd_some q1]
      exact hr
    have hk' : BK p σ (bestF p σ) := bfM_k p σ (p 0 ^ p 0)
    rcases hb : bestF p σ with _ | ⟨g, b, c⟩
    · rw [hb] at q2 mres
      obtain ⟨w1, w2⟩ := q2
      refine ⟨-4, x1, m2, xres _ ?_, mres _ ?_, p, σ, t, tn, H, hn, K, kn, sc, sn, sl, sq, ch, hI.up hk, hX', hM'⟩
      · unfold f_X8_best_81 f_X8_best_83
        rw [w1, w2]
        split
        · rfl
        · split
          · rfl
          · rw [if_pos rfl]
      · unfold f_X9_best_188
        split
        · rfl
        · split
          · rw [if_pos (show gB none = -4 from rfl)]
          · rfl
    · rw [hb] at q2 mres
      obtain ⟨w1, w2, w3⟩ := q2
      obtain ⟨-, gb, bb⟩ := goR_b hp (hk' g b c hb)
      have n4 : ¬ nI g = -4 := n4_nI gb
      rcases z_m2 e2 with rfl | rfl | ⟨j, hj, rfl⟩
      · refine ⟨nI b, x1, m2, xres _ ?_, mres _ ?_, p, σ, t, tn, H, hn, K, kn, sc, sn, sl, sq, ch, hI.up hk, hX', hM'⟩
        · rw [if_neg (by decide), if_pos rfl, w2]
        · unfold f_X9_best_188
          rw [if_neg (by decide), if_pos rfl, if_neg (show ¬ gB (some (g, b, c)) = -4 from n4)]
          rfl
      · refine ⟨nI g, x1, m2, xres _ ?_, mres _ ?_, p, σ, t, tn, H, hn, K, kn, sc, sn, sl, sq, ch, hI.up hk, hX', hM'⟩
        · rw [if_pos rfl, w1]
        · unfold f_X9_best_188
          rw [if_pos rfl]
          rfl
      · have nm1 : ¬ nI j = -1 := by
          intro q
          have z := congrArg Int32.toInt q
          rw [nI_toInt hj, show (-1 : Int32).toInt = -1 from by decide] at z
          omega
        have nm2 : ¬ nI j = -2 := by
          intro q
          have z := congrArg Int32.toInt q
          rw [nI_toInt hj, show (-2 : Int32).toInt = -2 from by decide] at z
          omega
        have xc := X_hasChild hp e62 (nI j)
        by_cases e3 : j < p 0
        · rw [show fm_in (nI j) (p 0) = true by rw [z_in hj]; exact e3] at xc
          refine ⟨nI (rwF (p 0) c j), x1, m2, xres _ ?_, mres _ ?_, p, σ, t, tn, H, hn, K, kn, sc, sn, sl, sq, ch, hI.up hk, hX', hM'⟩
          · unfold f_X8_best_83
            rw [if_neg nm1, if_neg nm2, w1, if_neg n4, bd_some xc, if_neg (by decide), if_pos (by rw [z_in hj]; omega), z_clamp hj, w3 j e3]
          · unfold f_X9_best_188 rB
            rw [if_neg nm1, if_neg nm2]
            dsimp only
            rw [if_neg (by rw [show (0 : Int32) = nI 0 from rfl, z_lt hj (by omega)]; omega), if_neg (by rw [z_le (by omega) hj]; omega), z_clamp hj]
        · rw [show fm_in (nI j) (p 0) = false by rw [← Bool.not_eq_true, z_in hj]; exact e3] at xc
          refine ⟨-4, x1, m2, xres _ ?_, mres _ ?_, p, σ, t, tn, H, hn, K, kn, sc, sn, sl, sq, ch, hI.up hk, hX', hM'⟩
          · unfold f_X8_best_81 f_X8_best_83
            rw [if_neg nm1, if_neg nm2, w1, if_neg n4, bd_some xc, if_pos (by decide)]
          · unfold f_X9_best_188 rB
            rw [if_neg nm1, if_neg nm2]
            dsimp only
            rw [if_neg (by rw [show (0 : Int32) = nI 0 from rfl, z_lt hj (by omega)]; omega), if_pos (by rw [z_le (by omega) hj]; omega)]
  · refine Good.same hrel hk (r := -1) ?_ ?_
    · unfold f_X8_best
      rw [if_neg e2]
    · unfold f_X9_best
      rw [if_neg e2]
