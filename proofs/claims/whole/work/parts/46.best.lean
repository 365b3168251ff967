/-! tried: best -/
theorem goF_mono {p ρ : Nat → Nat} : ∀ (k K : Nat) (σ : Nat → Nat) (g b : Nat) (r : Nat × Nat), k ≤ K → goF p ρ k σ g b = some r → goF p ρ K σ g b = some r
  | 0, K, σ, g, b, r, _, h => by simp [goF] at h
  | k + 1, 0, σ, g, b, r, hk, h => by omega
  | k + 1, K + 1, σ, g, b, r, hk, h => by
    unfold goF at h ⊢
    split at h
    · rename_i e; rw [if_pos e]; exact h
    · rename_i e; rw [if_neg e]; exact goF_mono k K _ _ _ r (by omega) h
theorem goF_lt {p ρ : Nat → Nat} : ∀ (k K : Nat) (σ : Nat → Nat) (g b g' b' : Nat), goF p ρ K σ g b = some (g', b') → g' < g + k → goF p ρ k σ g b = some (g', b')
  | 0, K, σ, g, b, g', b', h, hk => by
    have := goF_le K σ g b g' b' h
    omega
  | k + 1, 0, σ, g, b, g', b', h, hk => by simp [goF] at h
  | k + 1, K + 1, σ, g, b, g', b', h, hk => by
    unfold goF at h ⊢
    split at h
    · rename_i e; rw [if_pos e]; exact h
    · rename_i e; rw [if_neg e]; exact goF_lt k K _ _ _ g' b' h (by omega)
theorem goF_b {p ρ : Nat → Nat} (hp : p 0 ≤ 6) : ∀ (k : Nat) (σ : Nat → Nat) (g b g' b' : Nat), goF p ρ k σ g b = some (g', b') → b' ≤ b + 6 * k
  | 0, σ, g, b, g', b', h => by simp [goF] at h
  | k + 1, σ, g, b, g', b', h => by
    unfold goF at h
    split at h
    · simp only [Option.some.injEq, Prod.mk.injEq] at h
      omega
    · have h1 := goF_b hp k _ _ _ g' b' h
      have h2 := bc_le p (trF p ρ (dsF p 3 σ) (p 1)) (p 0)
      unfold nxB paB at h1
      omega
theorem goR_b {p ρ σ : Nat → Nat} (hp : PI p) {g b : Nat} (h : goR p ρ σ = some (g, b)) : g < p 4 + 1 - σ 28 ∧ g < 1000 ∧ b < 1000 := by
  have h4 := hp.2.2.2.2.2.2.2.2.2.2.1
  have h1 := goF_le _ _ _ _ _ _ h
  have h2 := goF_b hp.2.2.1 _ _ _ _ _ _ h
  omega
def BK (p σ : Nat → Nat) (a : Option (Nat × Nat × Nat)) : Prop := ∀ g b c, a = some (g, b, c) → goR p (rwF (p 0) c) σ = some (g, b)
theorem BK.st {p σ : Nat → Nat} {a : Option (Nat × Nat × Nat)} (h : BK p σ a) (c : Nat) : BK p σ (bst p σ a c) := by
  intro g b c' e
  unfold bst at e
  rcases hg : goR p (rwF (p 0) c) σ with _ | ⟨g1, b1⟩
  · rw [hg] at e; exact h g b c' e
  · rw [hg] at e
    rcases a with _ | ⟨g0, b0, c0⟩
    · simp only [Option.some.injEq, Prod.mk.injEq] at e
      obtain ⟨rfl, rfl, rfl⟩ := e
      exact hg
    · dsimp only at e
      split at e
      · simp only [Option.some.injEq, Prod.mk.injEq] at e
        obtain ⟨rfl, rfl, rfl⟩ := e
        exact hg
      · exact h g b c' e
def FB (x s : fm_M) : Prop := (∀ d, d < 90 ∨ 100 < d → s d = x d) ∧ s 98 6 = x 9 10
theorem rwF_lt {n c k : Nat} (h : 1 ≤ n) : rwF n c k < n := Nat.mod_lt _ (by omega)
/-- one trial of one row, held against the best -/
theorem X_try100 {p σ : Nat → Nat} {x s : fm_M} {a : Option (Nat × Nat × Nat)} {c : Nat} (hp : PI p) (hH : HI p σ) (h28 : σ 28 ≤ 999) (hP : RP p s) (hR : RH p σ s 91) (hX : RX p (rwF (p 0) c) s 99) (hB : BV p a s) (hK : BK p σ a) (hF : FB x s) (v2 : Int32) (k : Nat) (hv : ∀ i : Nat, i < 5000 → (v2 < nI i ↔ k ≤ i)) (hk : k = match a with
    | none => p 4 + 1 - σ 28
    | some (g, _, _) => g + 1) (v3 : Int32) : ∃ s', f_X5_tryAllRows_100 9 v3 v2 s = f_X5_tryAllRows_147 9 v3 s' ∧ RX p (rwF (p 0) c) s' 99 ∧ BV p (bst p σ a c) s' ∧ FB x s' := by
  have h4 := hp.2.2.2.2.2.2.2.2.2.2.1
  have hp0 := hp.2.2.1
  have hp00 := hp.2.1
  have hkb : k ≤ p 4 + 1 - σ 28 := by
    rcases a with _ | ⟨g0, b0, c0⟩
    · dsimp only at hk; omega
    · dsimp only at hk
      have := (goR_b hp (hK g0 b0 c0 rfl)).1
      omega
  have ro : RO p (rwF (p 0) c) := fun i hi => rwF_lt hp00
  -- when it isn't better
  have no : ∀ s2 : fm_M, FC s s2 → f_X1_goOn 99 v2 s = some (0, s2) → f_X5_isBetter s2 = some (0, s2) → bst p σ a c = a → ∃ s', f_X5_tryAllRows_100 9 v3 v2 s = f_X5_tryAllRows_147 9 v3 s' ∧ RX p (rwF (p 0) c) s' 99 ∧ BV p (bst p σ a c) s' ∧ FB x s' := by
    intro s2 f1 f2 f3 f4
    refine ⟨s2, ?_, hX.fh (f1 99 (by omega)), by rw [f4]; exact hB.fr (f1 98 (by omega)) (f1 100 (by omega)), fun d hd => by rw [f1 d (by omega)]; exact hF.1 d hd, by rw [f1 98 (by omega)]; exact hF.2⟩
    unfold f_X5_tryAllRows_100
    rw [bd_some f2, bd_some f3, if_pos rfl]
  have yes : ∀ (s2 : fm_M) (g b : Nat), FC s s2 → f_X1_goOn 99 v2 s = some (0, s2) → f_X5_isBetter s2 = some (1, s2) → s2 90 2 = nI g → s2 90 3 = nI b → bst p σ a c = some (g, b, c) → ∃ s', f_X5_tryAllRows_100 9 v3 v2 s = f_X5_tryAllRows_147 9 v3 s' ∧ RX p (rwF (p 0) c) s' 99 ∧ BV p (bst p σ a c) s' ∧ FB x s' := by
    intro s2 g b f1 f2 f3 f5 f6 f4
    refine ⟨fm_cp (fm_up (fm_up s2 98 4 (s2 90 2)) 98 5 ((fm_up s2 98 4 (s2 90 2)) 90 3)) 99 0 100 0 6, ?_, ?_, ?_, ?_, ?_⟩
    · unfold f_X5_tryAllRows_100
      rw [bd_some f2, bd_some f3, if_neg (by decide)]
    · refine hX.fh ?_
      rw [m_cp_ne (by omega), m_up_ne (by omega), m_up_ne (by omega), f1 99 (by omega)]
    · rw [f4]
      refine ⟨?_, ?_, fun i hi => ?_⟩
      · rw [m_cp_ne (by omega), m_up_eq, m_upd_ne (by omega), m_up_eq, m_upd_eq]; exact f5
      · rw [m_cp_ne (by omega), m_up_eq, m_upd_eq, m_up_ne (by omega)]; exact f6
      · rw [m_cp_eq, cpy0 (by omega), m_up_ne (by omega), m_up_ne (by omega), f1 99 (by omega)]; exact hX.1 i hi
    · intro d hd
      rw [m_cp_ne (by omega), m_up_ne (by omega), m_up_ne (by omega), f1 d (by omega)]; exact hF.1 d hd
    · rw [m_cp_ne (by omega), m_up_eq, m_upd_ne (by omega), m_up_eq, m_upd_ne (by omega), f1 98 (by omega)]; exact hF.2
  rcases X_goOn hp ro (r := 99) (by omega) hv (by omega) hP hR hH hX (by omega) with ⟨g, b, s2, a1, a2, a3, a4, a5⟩ | ⟨s2, a1, a2, a3, a4, a5⟩
  · have hg : goR p (rwF (p 0) c) σ = some (g, b) := goF_mono k _ σ 0 0 (g, b) hkb a1
    obtain ⟨-, gb, bb⟩ := goR_b hp hg
    have n4 : ¬ nI g = -4 := n4_nI gb
    rcases a with _ | ⟨g0, b0, c0⟩
    · have e1 : s2 98 4 = -4 := by rw [a5 98 (by omega)]; exact hB.1
      refine yes s2 g b a5 a2 ?_ a3 a4 (by unfold bst; rw [hg])
      unfold f_X5_isBetter f_X5_isBetter_21 f_X5_isBetter_38
      rw [a3, e1, if_neg n4, if_pos rfl, if_neg n4, if_pos (by decide)]
    · have e1 : s2 98 4 = nI g0 := by rw [a5 98 (by omega)]; exact hB.1
      have e2 : s2 98 5 = nI b0 := by rw [a5 98 (by omega)]; exact hB.2.1
      obtain ⟨-, gb0, bb0⟩ := goR_b hp (hK g0 b0 c0 rfl)
      have n40 : ¬ nI g0 = -4 := n4_nI gb0
      by_cases q1 : g < g0
      · refine yes s2 g b a5 a2 ?_ a3 a4 (by unfold bst; rw [hg]; dsimp only; rw [if_pos (Or.inl q1)])
        unfold f_X5_isBetter f_X5_isBetter_81 f_X5_isBetter_86
        rw [a3, e1, if_neg n4, if_neg n40, if_pos (by rw [z_lt (by omega) (by omega)]; exact q1), if_pos (by decide)]
      · by_cases q2 : g = g0
        · by_cases q3 : b < b0
          · refine yes s2 g b a5 a2 ?_ a3 a4 (by unfold bst; rw [hg]; dsimp only; rw [if_pos (Or.inr ⟨q2, q3⟩)])
            unfold f_X5_isBetter f_X5_isBetter_81 f_X5_isBetter_86
            rw [a3, e1, e2, a4, if_neg n4, if_neg n40, if_neg (by rw [z_lt (by omega) (by omega)]; exact q1), if_pos (by rw [q2]), if_neg (by rw [z_le (by omega) (by omega)]; omega), if_pos (by decide)]
          · refine no s2 a5 a2 ?_ (by unfold bst; rw [hg]; dsimp only; rw [if_neg (by omega)])
            unfold f_X5_isBetter f_X5_isBetter_85 f_X5_isBetter_86
            rw [a3, e1, e2, a4, if_neg n4, if_neg n40, if_neg (by rw [z_lt (by omega) (by omega)]; exact q1), if_pos (by rw [q2]), if_pos (by rw [z_le (by omega) (by omega)]; omega), if_pos (by decide)]
        · refine no s2 a5 a2 ?_ (by unfold bst; rw [hg]; dsimp only; rw [if_neg (by omega)])
          unfold f_X5_isBetter f_X5_isBetter_85 f_X5_isBetter_86
          rw [a3, e1, if_neg n4, if_neg n40, if_neg (by rw [z_lt (by omega) (by omega)]; exact q1), if_neg (by rw [z_eq (by omega) (by omega)]; exact q2), if_pos (by decide)]
  · refine no s2 a5 a2 ?_ ?_
    · unfold f_X5_isBetter f_X5_isBetter_21 f_X5_isBetter_38
      rw [a3, if_pos rfl, if_pos rfl, if_pos (by decide)]
    · unfold bst
      rcases hg : goR p (rwF (p 0) c) σ with _ | ⟨g, b⟩
      · rfl
      · have hge : k ≤ g := by
          rcases (show g < k ∨ k ≤ g by omega) with q | q
          · have := goF_lt k _ σ 0 0 g b hg (by omega)
            rw [a1] at this; cases this
          · exact q
        rcases a with _ | ⟨g0, b0, c0⟩
        · dsimp only at hk
          have := (goR_b hp hg).1
          omega
        · dsimp only at hk ⊢
          rw [if_neg (by omega)]
theorem X_try1 {p σ : Nat → Nat} {x s : fm_M} {a : Option (Nat × Nat × Nat)} {c : Nat} (hp : PI p) (hH : HI p σ) (h28 : σ 28 ≤ 999) (hP : RP p x) (hR : RH p σ x 9) (hX : RX p (rwF (p 0) c) s 99) (hB : BV p a s) (hK : BK p σ a) (hF : FB x s) (i : Nat) (hi : i < 720) : ∃ s', f_X5_tryAllRows_50 9 s (nI 1) (nI i) = f_X5_tryAllRows_147 9 (nI i) s' ∧ RX p (rwF (p 0) c) s' 99 ∧ BV p (bst p σ a c) s' ∧ FB x s' := by
  have hP1 : RP p s := hP.fr (hF.1 6 (by omega)) (hF.1 7 (by omega)) (hF.1 8 (by omega))
  have hR1 : RH p σ s 9 := hR.fr (fun c c1 c2 => hF.1 c (by omega))
  obtain ⟨s1, b1, b2, b3⟩ := X_startFrom hp hR1 hH
  have hF1 : FB x s1 := ⟨fun d hd => by rw [b3 d (by omega)]; exact hF.1 d hd, by rw [b3 98 (by omega)]; exact hF.2⟩
  have h4 := hp.2.2.2.2.2.2.2.2.2.2.1
  rcases a with _ | ⟨g0, b0, c0⟩
  · have e1 : s1 98 4 = -4 := by rw [b3 98 (by omega)]; exact hB.1
    have ht : f_X1_minutesTillLunch s1 = some (nI (p 4) - nI (σ 28), s1) := by
      unfold f_X1_minutesTillLunch
      rw [(hP1.fc b3).2.2.2.1, b2.2.2.2.2.1]
    have hv : ∀ i : Nat, i < 5000 → (nI (p 4) - nI (σ 28) < nI i ↔ p 4 + 1 - σ 28 ≤ i) := by
      intro i hi
      by_cases e : σ 28 ≤ p 4
      · rw [z_sub e, z_lt (by omega) (by omega)]; omega
      · rw [z_neg_lt (z_subneg (by omega) (by omega) (by omega)) (by omega)]
        exact ⟨fun _ => by omega, fun _ => trivial⟩
    obtain ⟨s2, d1, d2⟩ := X_try100 (c := c) hp hH h28 (hP1.fc b3) b2 (hX.fh (b3 99 (by omega))) (hB.fr (b3 98 (by omega)) (b3 100 (by omega))) hK hF1 _ _ hv rfl (nI i)
    refine ⟨s2, ?_, d2⟩
    unfold f_X5_tryAllRows_50
    rw [if_neg (by rw [show (720 : Int32) = nI 720 from rfl, z_le (by omega) (by omega)]; omega), if_neg (by decide), bd_some b1, e1, if_pos rfl, bd_some ht, d1]
  · have e1 : s1 98 4 = nI g0 := by rw [b3 98 (by omega)]; exact hB.1
    obtain ⟨-, gb0, bb0⟩ := goR_b hp (hK g0 b0 c0 rfl)
    obtain ⟨s2, d1, d2⟩ := X_try100 (c := c) hp hH h28 (hP1.fc b3) b2 (hX.fh (b3 99 (by omega))) (hB.fr (b3 98 (by omega)) (b3 100 (by omega))) hK hF1 (nI g0) (g0 + 1) (fun i hi => by rw [z_lt (by omega) (by omega)]; omega) rfl (nI i)
    refine ⟨s2, ?_, d2⟩
    unfold f_X5_tryAllRows_50
    rw [if_neg (by rw [show (720 : Int32) = nI 720 from rfl, z_le (by omega) (by omega)]; omega), if_neg (by decide), bd_some b1, e1, if_neg (n4_nI gb0), d1]
theorem X_tryAll {p σ : Nat → Nat} {x : fm_M} (hp : PI p) (hH : HI p σ) (h28 : σ 28 ≤ 999) (hP : RP p x) (hR : RH p σ x 9) (h1000 : ∀ j, j < 6 → x 1000 j = nI j) (hne : ¬ x 9 10 = x 98 6) : ∃ s', f_X5_tryAllRows 9 x = some (0, s') ∧ BV p (bestF p σ) s' ∧ FB x s' := by
  have hp0 := hp.2.2.1
  have hp00 := hp.2.1
  have hch := chB_ok hp00 hp0
  rcases hL : codesOf (p 0) with _ | ⟨cc, tt⟩
  · rw [hL] at hch; simp [chB] at hch
  rw [hL] at hch
  unfold chB at hch
  simp only [Bool.and_eq_true, List.all_eq_true, List.mem_range, beq_iff_eq, Nat.ble_eq] at hch
  obtain ⟨⟨k1, k2⟩, k3⟩ := hch
  have hlen : (codesOf (p 0)).length ≤ 720 := by rw [hL, List.length_cons]; omega
  obtain ⟨s0, hs0⟩ : ∃ s0, s0 = fm_cp (fm_up (fm_up (fm_up x 98 6 (x 9 10)) 98 4 (-4 : Int32)) 98 5 (-4 : Int32)) 1000 0 99 0 6 := ⟨_, rfl⟩
  have i1 : RX p (rwF (p 0) cc) s0 99 := by
    have hc : ∀ k, k < 6 → s0 99 k = nI k := fun k hk => by
      rw [hs0, m_cp_eq, cpy0 hk, m_up_ne (by omega), m_up_ne (by omega), m_up_ne (by omega)]; exact h1000 k hk
    refine ⟨fun k hk => by rw [hc k (by omega), k1 k hk], fun k h1 h2 => ?_⟩
    rw [hc k h2, ← Bool.not_eq_true, z_in (by omega)]; omega
  have i2 : BV p none s0 := by
    refine ⟨?_, ?_⟩
    · rw [hs0, m_cp_ne (by omega), m_up_eq, m_upd_ne (by omega), m_up_eq, m_upd_eq]
    · rw [hs0, m_cp_ne (by omega), m_up_eq, m_upd_eq]
  have i3 : FB x s0 := by
    refine ⟨fun d hd => ?_, ?_⟩
    · rw [hs0, m_cp_ne (by omega), m_up_ne (by omega), m_up_ne (by omega), m_up_ne (by omega)]
    · rw [hs0, m_cp_ne (by omega), m_up_eq, m_upd_ne (by omega), m_up_eq, m_upd_ne (by omega), m_up_eq, m_upd_eq]
  obtain ⟨y, g1, s', a, b, g2, g3, g4⟩ := it_go (body := fun (yy : fm_M × Int32 × Int32) => f_X5_tryAllRows_50 9 yy.1 yy.2.1 yy.2.2) (fun i t => ∃ s', FB x s' ∧ ((t = (s', nI 1, nI i) ∧ ∃ dn c rest, codesOf (p 0) = dn ++ c :: rest ∧ dn.length = i ∧ chC (p 0) c rest = true ∧ RX p (rwF (p 0) c) s' 99 ∧ BV p (dn.foldl (bst p σ) none) s' ∧ BK p σ (dn.foldl (bst p σ) none)) ∨ (t = (s', nI 0, nI i) ∧ BV p (bestF p σ) s'))) (fun y => ∃ s' a b, y = (s', a, b) ∧ BV p (bestF p σ) s' ∧ FB x s') 720 (s0, 1, 0) (by omega) ⟨s0, i3, Or.inl ⟨rfl, [], cc, tt, by rw [hL]; rfl, rfl, k3, i1, i2, fun g b c e => by cases e⟩⟩ (by
    rintro i t hi ⟨s1, f1, ⟨rfl, dn, c, rest, q1, q2, q3, q4, q5, q6⟩ | ⟨rfl, q⟩⟩
    · left
      obtain ⟨s2, d1, d2, d3, d4⟩ := X_try1 hp hH h28 hP hR q4 q5 q6 f1 i hi
      have hP2 : RP p s2 := hP.fr (d4.1 6 (by omega)) (d4.1 7 (by omega)) (d4.1 8 (by omega))
      obtain ⟨n1, n2⟩ := X_nextRow (f := rwF (p 0) c) hp hP2 d2.1 (fun k hk => by have := rwF_lt (c := c) (k := k) hp00; omega)
      have hfold : (dn ++ [c]).foldl (bst p σ) none = bst p σ (dn.foldl (bst p σ) none) c := by rw [List.foldl_append]; rfl
      rcases rest with _ | ⟨c', rest'⟩
      · have hz : pvF (rwF (p 0) c) (p 0 - 1) = 0 := by simpa [chC] using q3
        refine ⟨(s2, nI 0, nI (i + 1)), ?_, s2, d4, Or.inr ⟨rfl, ?_⟩⟩
        · dsimp only
          rw [d1]
          unfold f_X5_tryAllRows_147
          rw [bd_some (n2 hz), show (1 : Int32) = nI 1 from rfl, z_add]
          rfl
        · unfold bestF
          rw [q1, hfold]; exact d3
      · rw [chC, Bool.and_eq_true] at q3
        obtain ⟨q3a, q3b⟩ := q3
        unfold nxOk at q3a
        simp only [Bool.and_eq_true, decide_eq_true_eq, List.all_eq_true, List.mem_range, beq_iff_eq] at q3a
        obtain ⟨s3, m1, m2, m3, m4⟩ := n1 q3a.1
        refine ⟨(s3, nI 1, nI (i + 1)), ?_, s3, ⟨fun d hd => by rw [m4 d (by omega)]; exact d4.1 d hd, by rw [m4 98 (by omega)]; exact d4.2⟩, Or.inl ⟨rfl, dn ++ [c], c', rest', by rw [q1, List.append_assoc]; rfl, by rw [List.length_append, q2]; rfl, q3b, ⟨fun k hk => by rw [m2 k hk, q3a.2 k hk], fun k h1 h2 => by rw [m3 k h1]; exact d2.2 k h1 h2⟩, by rw [hfold]; exact d3.fr (m4 98 (by omega)) (m4 100 (by omega)), by rw [hfold]; exact q6.st c⟩⟩
        dsimp only
        rw [d1]
        unfold f_X5_tryAllRows_147
        rw [bd_some m1, show (1 : Int32) = nI 1 from rfl, z_add]
    · right
      refine ⟨(s1, nI 0, nI i), ?_, s1, _, _, rfl, q, f1⟩
      dsimp only [f_X5_tryAllRows_50]
      rw [if_neg (by rw [show (720 : Int32) = nI 720 from rfl, z_le (by omega) (by omega)]; omega), if_pos (show nI 0 = 0 from rfl)]) (by
    rintro t ⟨s1, f1, ⟨rfl, dn, c, rest, q1, q2, q3, q4, q5, q6⟩ | ⟨rfl, q⟩⟩
    · rw [q1, List.length_append, List.length_cons] at hlen
      omega
    · refine ⟨(s1, nI 0, nI 720), ?_, s1, _, _, rfl, q, f1⟩
      dsimp only [f_X5_tryAllRows_50]
      rw [if_pos (by decide)])
  refine ⟨s', ?_, g3, g4⟩
  unfold f_X5_tryAllRows f_X5_tryAllRows_158
  rw [if_neg hne, ← hs0, op_some g1, g2]
