/-! rows in their order, the best of them; what both sides hold -/
def mkC (n : Nat) : Nat → Nat → Nat
  | 0, _ => 0
  | k + 1, c => mkC n k (c / n) ||| 2 ^ (c % n)
/-- a row is told by a number: its places are the figures of it, to the base n -/
def okC (n c : Nat) : Bool := Nat.beq (mkC n n c) (2 ^ n - 1)
def rwF (n c k : Nat) : Nat := c / n ^ (n - 1 - k) % n
def codesOf (n : Nat) : List Nat := (List.range (n ^ n)).filter (okC n)
def bst (p σ : Nat → Nat) (a : Option (Nat × Nat × Nat)) (c : Nat) : Option (Nat × Nat × Nat) := match goR p (rwF (p 0) c) σ with
  | none => a
  | some (g, b) => match a with
    | none => some (g, b, c)
    | some (g0, b0, c0) => if g < g0 ∨ (g = g0 ∧ b < b0) then some (g, b, c) else some (g0, b0, c0)
def bestF (p σ : Nat → Nat) : Option (Nat × Nat × Nat) := (codesOf (p 0)).foldl (bst p σ) none
def BV (p : Nat → Nat) (a : Option (Nat × Nat × Nat)) (x : fm_M) : Prop := match a with
  | none => x 98 4 = -4 ∧ x 98 5 = -4
  | some (g, b, c) => x 98 4 = nI g ∧ x 98 5 = nI b ∧ ∀ k, k < p 0 → x 100 k = nI (rwF (p 0) c k)
def TXc (t : Nat → Nat) (n : Nat) (x : fm_M) : Prop := x 1 1 = nI n ∧ ∀ j, j < n → x 2 j = nI (t j)
def TMc (t : Nat → Nat) (n : Nat) (m : fm_M) : Prop := m 0 1 = nI n ∧ ∀ j, j < n → m 1 j = nI (t j)
def TI (t : Nat → Nat) (n : Nat) : Prop := n ≤ 200 ∧ ∀ j, j < n → 32 ≤ t j ∧ t j ≤ 126
def PX (p : Nat → Nat) (H : Nat → Nat → Nat) (n N pp : Nat) (x : fm_M) : Prop := n ≤ N ∧ ∃ top, top < N ∧ x pp 1 = nI top ∧ x pp 2 = nI n ∧ ∀ k, k < n → RH p (H k) x (pp + 1 + 1 + 7 * ((top + N - k) % N))
def PIh (p : Nat → Nat) (H : Nat → Nat → Nat) (n : Nat) : Prop := ∀ k, k < n → HI p (H k) ∧ H k 28 ≤ 999
def SX (sc sn sl : Nat → Nat) (n : Nat) (x : fm_M) : Prop := x 101 3 = nI n ∧ ∀ j, j < n → x 102 j = nI (sc j) ∧ x 103 j = nI (sn j) ∧ x 104 j = nI (sl j)
def SM (sc sn sl : Nat → Nat) (n : Nat) (m : fm_M) : Prop := m 0 10 = nI n ∧ ∀ j, j < n → m 7 j = nI (100 * sc j + 2 * sn j + sl j)
def SI (sc sn sl : Nat → Nat) (n : Nat) : Prop := n ≤ 8 ∧ ∀ j, j < n → sc j < 6 ∧ 1 ≤ sn j ∧ sn j ≤ 20 ∧ sl j ≤ 1
/-- the class's side -/
def XS (p σ t : Nat → Nat) (tn : Nat) (H : Nat → Nat → Nat) (hn : Nat) (K : Nat → Nat → Nat) (kn : Nat) (sc sn sl : Nat → Nat) (sq ch : Nat) (x : fm_M) : Prop :=
  (RP p x ∧ x 6 3 = nI (p 1)) ∧ RH p σ x 9 ∧ TXc t tn x ∧ PX p H hn 8 16 x ∧ PX p K kn 2 74 x ∧ SX sc sn sl sq x ∧ x 9 10 = nI ch ∧ (x 98 6 = x 9 10 → BV p (bestF p σ) x) ∧ (x 98 6 = -4 ∨ ∃ ta, x 98 6 = nI ta ∧ ta ≤ ch) ∧ ∀ j, j < 6 → x 1000 j = nI j
/-- the reference's side -/
def MS (p σ t : Nat → Nat) (tn : Nat) (H : Nat → Nat → Nat) (hn : Nat) (K : Nat → Nat → Nat) (kn : Nat) (sc sn sl : Nat → Nat) (sq : Nat) (m : fm_M) : Prop :=
  RM p σ m ∧ TMc t tn m ∧ PM H hn m ∧ KM K kn m ∧ SM sc sn sl sq m
def IS (p σ t : Nat → Nat) (tn : Nat) (H : Nat → Nat → Nat) (hn : Nat) (K : Nat → Nat → Nat) (kn : Nat) (sc sn sl : Nat → Nat) (sq ch k : Nat) : Prop :=
  PI p ∧ HI p σ ∧ σ 28 ≤ 999 ∧ TI t tn ∧ PIh p H hn ∧ PIh p K kn ∧ SI sc sn sl sq ∧ ch ≤ 50 * k + 1 ∧ k ≤ 1000
def Rel (k : Nat) (x m : fm_M) : Prop := ∃ (p σ t : Nat → Nat) (tn : Nat) (H : Nat → Nat → Nat) (hn : Nat) (K : Nat → Nat → Nat) (kn : Nat) (sc sn sl : Nat → Nat) (sq ch : Nat), IS p σ t tn H hn K kn sc sn sl sq ch k ∧ XS p σ t tn H hn K kn sc sn sl sq ch x ∧ MS p σ t tn H hn K kn sc sn sl sq m
-- frames
theorem RH.fr {p σ : Nat → Nat} {s s' : fm_M} {a : Nat} (h : RH p σ s a) (e : ∀ c, a ≤ c → c ≤ a + 6 → s' c = s c) : RH p σ s' a := by
  unfold RH
  rw [e a (by omega) (by omega), e (a + 1) (by omega) (by omega), e (a + 2) (by omega) (by omega), e (a + 3) (by omega) (by omega), e (a + 4) (by omega) (by omega), e (a + 5) (by omega) (by omega), e (a + 6) (by omega) (by omega)]
  exact h
theorem PX.fr {p : Nat → Nat} {H : Nat → Nat → Nat} {n N pp : Nat} {x x' : fm_M} (h : PX p H n N pp x) (e : ∀ c, pp ≤ c → c < pp + 2 + 7 * N → x' c = x c) : PX p H n N pp x' := by
  obtain ⟨h0, top, h1, h2, h3, h4⟩ := h
  refine ⟨h0, top, h1, ?_, ?_, fun k hk => (h4 k hk).fr (fun c c1 c2 => e c (by omega) ?_)⟩
  · rw [e pp (by omega) (by omega)]; exact h2
  · rw [e pp (by omega) (by omega)]; exact h3
  · have : (top + N - k) % N < N := Nat.mod_lt _ (by omega)
    have := Nat.mul_le_mul_left 7 this
    omega
theorem TXc.fr {t : Nat → Nat} {n : Nat} {x x' : fm_M} (h : TXc t n x) (e1 : x' 1 = x 1) (e2 : x' 2 = x 2) : TXc t n x' := by unfold TXc; rw [e1, e2]; exact h
theorem SX.fr {sc sn sl : Nat → Nat} {n : Nat} {x x' : fm_M} (h : SX sc sn sl n x) (e : ∀ c, 101 ≤ c → c ≤ 104 → x' c = x c) : SX sc sn sl n x' := by
  unfold SX
  rw [e 101 (by omega) (by omega), e 102 (by omega) (by omega), e 103 (by omega) (by omega), e 104 (by omega) (by omega)]
  exact h
theorem BV.fr {p : Nat → Nat} {a : Option (Nat × Nat × Nat)} {x x' : fm_M} (h : BV p a x) (e1 : x' 98 = x 98) (e2 : x' 100 = x 100) : BV p a x' := by unfold BV; rw [e1, e2]; exact h
theorem RP.fr {p : Nat → Nat} {s s' : fm_M} (h : RP p s) (e6 : s' 6 = s 6) (e7 : s' 7 = s 7) (e8 : s' 8 = s 8) : RP p s' := by unfold RP; rw [e6, e7, e8]; exact h
/-- trials: the draft, the course and the row may change -/
theorem XS.fr {p σ t : Nat → Nat} {tn : Nat} {H : Nat → Nat → Nat} {hn : Nat} {K : Nat → Nat → Nat} {kn : Nat} {sc sn sl : Nat → Nat} {sq ch : Nat} {x x' : fm_M} (h : XS p σ t tn H hn K kn sc sn sl sq ch x) (e : ∀ c, ¬ (3 ≤ c ∧ c ≤ 5) → ¬ (90 ≤ c ∧ c ≤ 97) → ¬ c = 99 → x' c = x c) : XS p σ t tn H hn K kn sc sn sl sq ch x' := by
  obtain ⟨⟨h1, h1'⟩, h2, h3, h4, h5, h6, h7, h8, h9, h10⟩ := h
  have e9 := e 9 (by omega) (by omega) (by omega)
  have e98 := e 98 (by omega) (by omega) (by omega)
  refine ⟨⟨h1.fr (e 6 (by omega) (by omega) (by omega)) (e 7 (by omega) (by omega) (by omega)) (e 8 (by omega) (by omega) (by omega)), by rw [e 6 (by omega) (by omega) (by omega)]; exact h1'⟩, h2.fr (fun c c1 c2 => e c (by omega) (by omega) (by omega)), h3.fr (e 1 (by omega) (by omega) (by omega)) (e 2 (by omega) (by omega) (by omega)), h4.fr (fun c c1 c2 => e c (by omega) (by omega) (by omega)), h5.fr (fun c c1 c2 => e c (by omega) (by omega) (by omega)), h6.fr (fun c c1 c2 => e c (by omega) (by omega) (by omega)), by rw [e9]; exact h7, ?_, by rw [e98]; exact h9, fun j hj => by rw [e 1000 (by omega) (by omega) (by omega)]; exact h10 j hj⟩
  rw [e98, e9]
  exact fun q => (h8 q).fr e98 (e 100 (by omega) (by omega) (by omega))
theorem MS.fr {p σ t : Nat → Nat} {tn : Nat} {H : Nat → Nat → Nat} {hn : Nat} {K : Nat → Nat → Nat} {kn : Nat} {sc sn sl : Nat → Nat} {sq : Nat} {m m' : fm_M} (h : MS p σ t tn H hn K kn sc sn sl sq m) (e : ∀ c, c = 1 ∨ c = 2 ∨ c = 5 ∨ c = 6 ∨ c = 7 → m' c = m c) (e4 : ∀ j, j < 29 → m' 4 j = m 4 j) (e0 : m' 0 1 = m 0 1 ∧ m' 0 6 = m 0 6 ∧ m' 0 8 = m 0 8 ∧ m' 0 10 = m 0 10) : MS p σ t tn H hn K kn sc sn sl sq m' := by
  obtain ⟨h1, h2, h3, h4, h5⟩ := h
  refine ⟨⟨fun j hj => by rw [e 2 (by omega)]; exact h1.1 j hj, fun j hj => by rw [e4 j hj]; exact h1.2 j hj⟩, ?_, ?_, ?_, ?_⟩
  · unfold TMc; rw [e0.1, e 1 (by omega)]; exact h2
  · unfold PM; rw [e0.2.1, e 5 (by omega)]; exact h3
  · unfold KM; rw [e0.2.2.1, e 6 (by omega)]; exact h4
  · unfold SM; rw [e0.2.2.2, e 7 (by omega)]; exact h5
-- piles
theorem RH.b9 {p σ : Nat → Nat} {s : fm_M} {a : Nat} (hR : RH p σ s a) (hH : HI p σ) : fm_b (s a 9) = true := by
  rw [hR.2.2.2.2.2]
  have := hH.2.2.2.2.1
  rw [z_b this]; trivial
theorem X_push {p σ : Nat → Nat} {H : Nat → Nat → Nat} {n N pp : Nat} {x : fm_M} (hp : PI p) (hN : (N = 8 ∧ pp = 16) ∨ (N = 2 ∧ pp = 74)) (hP : PX p H n N pp x) (hR : RH p σ x 9) (hH : HI p σ) : ∃ x', f_X3_push pp N 9 x = some (0, x') ∧ PX p (push σ H) (if n = N then N else n + 1) N pp x' ∧ ∀ c, c < pp ∨ pp + 2 + 7 * N ≤ c → x' c = x c := by
  obtain ⟨h0, top, h1, h2, h3, h4⟩ := hP
  obtain ⟨tp, htp⟩ : ∃ tp, tp = if top + 1 < N then top + 1 else 0 := ⟨_, rfl⟩
  have htl : tp < N := by rw [htp]; split <;> omega
  obtain ⟨x1, g1, g2, g3, -⟩ := X_copyFrom (s := fm_up x pp 1 (nI tp)) (a := pp + 1 + 1 + 7 * tp) (g := 9) (by omega) (by rw [m_up_ne (by omega)]; exact hR.b9 hH)
  have e2 : x1 pp 2 = nI n := by rw [g3 pp (by omega), m_up_eq, m_upd_ne (by omega)]; exact h3
  have e1 : x1 pp 1 = nI tp := by rw [g3 pp (by omega), m_up_eq, m_upd_eq]
  have hf25 : f_X3_push_25 pp N 9 (nI tp) x = some (0, fm_up x1 pp 2 (nI (if n = N then N else n + 1))) := by
    unfold f_X3_push_25
    rw [m_up_eq, m_upd_eq, if_pos (by rw [z_in (by omega)]; exact htl), z_clamp (by omega), bd_some g1, e2, show Int32.ofNat N = nI N from rfl, show (1 : Int32) = nI 1 from rfl, z_add]
    by_cases e : n = N
    · rw [if_pos e, if_pos (by rw [z_lt (by omega) (by omega)]; omega)]
    · rw [if_neg e, if_neg (by rw [z_lt (by omega) (by omega)]; omega)]
  refine ⟨fm_up x1 pp 2 (nI (if n = N then N else n + 1)), ?_, ⟨by split <;> omega, tp, htl, by rw [m_up_eq, m_upd_ne (by omega)]; exact e1, by rw [m_up_eq, m_upd_eq], fun k hk => ?_⟩, fun c hc => ?_⟩
  · unfold f_X3_push
    rw [h2, show Int32.ofNat N = nI N from rfl, show (1 : Int32) = nI 1 from rfl, z_add]
    by_cases e : top + 1 < N
    · rw [if_neg (by rw [z_le (by omega) (by omega)]; omega)]
      rw [if_pos e] at htp
      rw [← htp]
      exact hf25
    · rw [if_pos (by rw [z_le (by omega) (by omega)]; omega)]
      rw [if_neg e] at htp
      rw [htp] at hf25
      exact hf25
  · cases k with
    | zero =>
      rw [show (tp + N - 0) % N = tp by rw [Nat.sub_zero, Nat.add_mod_right]; exact Nat.mod_eq_of_lt htl]
      have hRx : RH p σ (fm_up x pp 1 (nI tp)) 9 := hR.fr (fun c c1 c2 => m_up_ne (by omega))
      exact (g2.rh hp hRx).fr (fun c c1 c2 => m_up_ne (by omega))
    | succ k =>
      have hkn : k < n ∧ k + 1 < N := by split at hk <;> omega
      have hix : (tp + N - (k + 1)) % N = (top + N - k) % N := by
        rcases hN with ⟨rfl, -⟩ | ⟨rfl, -⟩ <;> (rw [htp]; split <;> omega)
      have hne : ¬ (top + N - k) % N = tp := by
        rcases hN with ⟨rfl, -⟩ | ⟨rfl, -⟩ <;> (rw [htp]; split <;> omega)
      have hlt : (top + N - k) % N < N := Nat.mod_lt _ (by omega)
      rw [hix]
      refine (h4 k hkn.1).fr (fun c c1 c2 => ?_)
      rw [m_up_ne (by omega), g3 c (by omega), m_up_ne (by omega)]
  · rw [m_up_ne (by omega), g3 c (by
      have := Nat.mul_le_mul_left 7 htl
      omega), m_up_ne (by omega)]
theorem X_pop {p : Nat → Nat} {H : Nat → Nat → Nat} {n N pp : Nat} {x : fm_M} (hp : PI p) (hN : (N = 8 ∧ pp = 16) ∨ (N = 2 ∧ pp = 74)) (hP : PX p H (n + 1) N pp x) (hH : HI p (H 0)) : ∃ x', f_X3_popInto pp N 9 x = some (0, x') ∧ PX p (fun k => H (k + 1)) n N pp x' ∧ RH p (H 0) x' 9 ∧ x' 9 10 = x 9 10 + 1 ∧ ∀ c, ¬ c = pp → ¬ (9 ≤ c ∧ c ≤ 15) → x' c = x c := by
  obtain ⟨h0, top, h1, h2, h3, h4⟩ := hP
  have hz := h4 0 (by omega)
  rw [show (top + N - 0) % N = top by rw [Nat.sub_zero, Nat.add_mod_right]; exact Nat.mod_eq_of_lt h1] at hz
  obtain ⟨x1, g1, g2, g3, g4⟩ := X_copyFrom (s := x) (a := 9) (g := pp + 1 + 1 + 7 * top) (by omega) (hz.b9 hH)
  have e1 : x1 pp 1 = nI top := by rw [g3 pp (by omega)]; exact h2
  have e2 : x1 pp 2 = nI (n + 1) := by rw [g3 pp (by omega)]; exact h3
  obtain ⟨tp, htp⟩ : ∃ tp, tp = if top = 0 then N - 1 else top - 1 := ⟨_, rfl⟩
  have htl : tp < N := by rw [htp]; split <;> omega
  refine ⟨fm_up (fm_up x1 pp 1 (nI tp)) pp 2 (nI n), ?_, ⟨by omega, tp, htl, by rw [m_up_eq, m_upd_ne (by omega), m_up_eq, m_upd_eq], by rw [m_up_eq, m_upd_eq], fun k hk => ?_⟩, ?_, ?_, fun c c1 c2 => ?_⟩
  · have h44 : ∀ v : Int32, v = nI tp → f_X3_popInto_44 pp N 9 v x1 = some (0, fm_up (fm_up x1 pp 1 (nI tp)) pp 2 (nI n)) := by
      rintro v rfl
      unfold f_X3_popInto_44 f_X3_popInto_57
      rw [m_up_eq, m_upd_ne (by omega), e2, show (1 : Int32) = nI 1 from rfl, z_sub (by omega), Nat.add_sub_cancel]
    unfold f_X3_popInto
    rw [h3, h2, show (0 : Int32) = nI 0 from rfl, if_neg (by rw [z_le (by omega) (by omega)]; omega), if_pos (by rw [z_in (by omega)]; exact h1), z_clamp (by omega), bd_some g1, e1]
    by_cases e : top = 0
    · rw [if_pos (by rw [z_le (by omega) (by omega)]; omega)]
      refine h44 _ ?_
      rw [show Int32.ofNat N = nI N from rfl, show (1 : Int32) = nI 1 from rfl, z_sub (by omega), htp, if_pos e]
    · rw [if_neg (by rw [z_le (by omega) (by omega)]; omega)]
      refine h44 _ ?_
      rw [show (1 : Int32) = nI 1 from rfl, z_sub (by omega), htp, if_neg e]
  · have hix : (tp + N - k) % N = (top + N - (k + 1)) % N := by
      rcases hN with ⟨rfl, -⟩ | ⟨rfl, -⟩ <;> (rw [htp]; split <;> omega)
    have hlt : (top + N - (k + 1)) % N < N := Nat.mod_lt _ (by omega)
    rw [hix]
    refine (h4 (k + 1) (by omega)).fr (fun c c1 c2 => ?_)
    rw [m_up_ne (by omega), m_up_ne (by omega), g3 c (by omega)]
  · exact (g2.rh hp hz).fr (fun c c1 c2 => by rw [m_up_ne (by omega), m_up_ne (by omega)])
  · rw [m_up_ne (by omega), m_up_ne (by omega)]; exact g4
  · rw [m_up_ne c1, m_up_ne c1, g3 c (by omega)]
